/-! FIRST COME: the class's half -/
def kd (z : Nat → Int32) : Option Nat := if 0 ≤ z 4 ∧ z 4 < 3 then some (3 * (if z 2 ≤ z 1 then 1 else 0) + (z 4).toNatClampNeg) else none
def lateI (l : Nat → Int32) (z : Nat → Int32) : Bool := match kd z with
  | none => false
  | some k => decide (z 0 < l k)
def mxI (z : Nat → Int32) (l : Nat → Int32) : Nat → Int32 := match kd z with
  | none => l
  | some k => up l k (if l k < z 0 then z 0 else l k)
def cR : (Nat → Int32) → List (List (Nat → Int32)) → Bool
  | _, [] => true
  | l, nw :: r => !(nw.any (lateI l)) && cR (nw.foldr mxI l) r
def Om (X : aM) (x1 x2 : Nat) (lt ln : Nat → Int32) : aM := mR (mR X x1 lt) x2 ln
theorem lvl_of {v : Int32} (h1 : ¬ v < 0) (h2 : ¬ 3 ≤ v) : ∃ k, k < 3 ∧ v = nI k := by
  have a1 : ¬ v.toInt < 0 := fun q => h1 (Int32.lt_iff_toInt_lt.mpr q)
  have a2 : ¬ 3 ≤ v.toInt := fun q => h2 (Int32.le_iff_toInt_le.mpr q)
  refine ⟨v.toInt.toNat, by omega, ?_⟩
  apply Int32.toInt_inj.mp
  rw [nI_toInt (by omega)]
  omega
theorem kd_lt {z : Nat → Int32} {k : Nat} (h : kd z = some k) : k < 6 := by
  unfold kd at h
  split at h
  · rename_i q
    obtain ⟨v, hv, e⟩ := lvl_of (Int32.not_lt.mpr q.1) (Int32.not_le.mpr q.2)
    cases h
    rw [e, cl_nI hv (by decide)]
    split <;> omega
  · cases h
theorem lateI_cg {l l' : Nat → Int32} {z : Nat → Int32} (h : ∀ j, j < 6 → l' j = l j) : lateI l' z = lateI l z := by
  unfold lateI
  cases hk : kd z with
  | none => rfl
  | some k => simp only [h k (kd_lt hk)]
theorem any_cg {l l' : Nat → Int32} (h : ∀ j, j < 6 → l' j = l j) (nw : List (Nat → Int32)) : nw.any (lateI l') = nw.any (lateI l) := by
  have e : lateI l' = lateI l := funext (fun z => lateI_cg h)
  rw [e]
theorem cR_nil : ∀ (nws : List (List (Nat → Int32))) (l : Nat → Int32), nws.flatten = [] → cR l nws = true
  | [], _, _ => rfl
  | nw :: r, l, h => by
    rw [List.flatten_cons, List.append_eq_nil_iff] at h
    show (!(nw.any (lateI l)) && cR (nw.foldr mxI l) r) = true
    rw [h.1]
    exact cR_nil r _ h.2
theorem mA_glo {M R : aM} {a n b j : Nat} {v : Int32} (h : b < a ∨ a + n ≤ b) : mA (gl M a n R) b j v = gl (mA M b j v) a n R := by
  unfold mA gl
  simp only
  congr 2
  funext x k
  simp only [up2]
  by_cases q : x = b ∧ k = j
  · rw [if_pos q, if_neg (by omega), if_pos q]
  · rw [if_neg q, if_neg q]
theorem mR_glo {M R : aM} {a n b : Nat} {f : Nat → Int32} (h : b < a ∨ a + n ≤ b) : mR (gl M a n R) b f = gl (mR M b f) a n R := by
  unfold mR gl
  simp only
  congr 2
  funext x k
  by_cases q : x = b
  · rw [if_pos q, if_neg (by omega), if_pos q]
  · rw [if_neg q, if_neg q]
theorem mR_sw {X : aM} {x y : Nat} {f g : Nat → Int32} (h : ¬ x = y) : mR (mR X x f) y g = mR (mR X y g) x f := by
  unfold mR
  simp only
  congr 2
  funext u k
  by_cases q : u = x
  · rw [if_neg (by omega), if_pos q, if_pos q]
  · rw [if_neg q, if_neg q]
section
variable {sc : aS} {d : Nat} {sh : List sE} {X R : aM} {o ap x1 x2 x3 : Nat} {lt ln : Nat → Int32}
theorem Ou_g1 (ho : shp sh o = some (.inl (3, [ap + 3, x1 + 3, x2 + 3, x3 + 3]))) : e_gf (mk sh X) o 3 1 = some (.ref x1) := by rw [gf_mk ho]; rfl
theorem Ou_g2 (ho : shp sh o = some (.inl (3, [ap + 3, x1 + 3, x2 + 3, x3 + 3]))) : e_gf (mk sh X) o 3 2 = some (.ref x2) := by rw [gf_mk ho]; rfl
theorem om_r1 (h1 : shp sh x1 = some (.inr (.inl (0, 6)))) (hx : ¬ x1 = x2) (hp : x1 < ap ∨ ap + 31 ≤ x1) {j : Nat} (hj : j < 6) : e_ia sc (mk sh (gl (Om X x1 x2 lt ln) ap 31 R)) x1 0 (nI j) = some (lt j) := by
  rw [ia_mk h1, cl_nI hj (by decide), if_pos (fun z => z.elim (nI_pos (by omega)) (by omega)), gl_Ao hp]
  unfold Om
  rw [mR_o hx, mR_s]
theorem om_r2 (h2 : shp sh x2 = some (.inr (.inl (0, 6)))) (hp : x2 < ap ∨ ap + 31 ≤ x2) {j : Nat} (hj : j < 6) : e_ia sc (mk sh (gl (Om X x1 x2 lt ln) ap 31 R)) x2 0 (nI j) = some (ln j) := by
  rw [ia_mk h2, cl_nI hj (by decide), if_pos (fun z => z.elim (nI_pos (by omega)) (by omega)), gl_Ao hp]
  unfold Om
  rw [mR_s]
theorem om_w1 (h1 : shp sh x1 = some (.inr (.inl (0, 6)))) (hx : ¬ x1 = x2) (hp : x1 < ap ∨ ap + 31 ≤ x1) {j : Nat} {v : Int32} (hj : j < 6) : e_is (mk sh (gl (Om X x1 x2 lt ln) ap 31 R)) x1 (nI j) v = some (mk sh (gl (Om X x1 x2 (up lt j v) ln) ap 31 R)) := by
  rw [is_mk h1, cl_nI hj (by decide), if_pos (fun z => z.elim (nI_pos (by omega)) (by omega)), mA_glo hp]
  unfold Om
  rw [mA_mRo hx, mA_mR]
theorem om_w2 (h2 : shp sh x2 = some (.inr (.inl (0, 6)))) (hp : x2 < ap ∨ ap + 31 ≤ x2) {j : Nat} {v : Int32} (hj : j < 6) : e_is (mk sh (gl (Om X x1 x2 lt ln) ap 31 R)) x2 (nI j) v = some (mk sh (gl (Om X x1 x2 lt (up ln j v)) ap 31 R)) := by
  rw [is_mk h2, cl_nI hj (by decide), if_pos (fun z => z.elim (nI_pos (by omega)) (by omega)), mA_glo hp]
  unfold Om
  rw [mA_mR]
theorem om_cp (h1 : shp sh x1 = some (.inr (.inl (0, 6)))) (h2 : shp sh x2 = some (.inr (.inl (0, 6)))) (hx : ¬ x1 = x2) (hp : x1 < ap ∨ ap + 31 ≤ x1) (hp2 : x2 < ap ∨ ap + 31 ≤ x2) : ∃ lt', (∀ j, j < 6 → lt' j = ln j) ∧ e_int sc 1003 [.ref x2, .int 0, .ref x1, .int 0, .int (Int32.ofNat 6)] (mk sh (gl (Om X x1 x2 lt ln) ap 31 R)) = some (none, mk sh (gl (Om X x1 x2 lt' ln) ap 31 R)) := by
  have ar : e_arr sc (mk sh (gl (Om X x1 x2 lt ln) ap 31 R)) x2 0 = some (6, ln) := by
    rw [arr_mk h2, gl_Ao hp2]
    unfold Om
    rw [mR_s]
  have t := cpy_to (dp := 0) (n := 6) ar h1 (by decide) (by decide) (by decide)
  refine ⟨va_cpy ln ((gl (Om X x1 x2 lt ln) ap 31 R).2.1 x1) 0 0 6, fun j hj => ?_, ?_⟩
  · unfold va_cpy
    rw [if_pos (by omega)]
    congr 1
    omega
  · rw [mR_glo hp] at t
    unfold Om at t ⊢
    rw [mR_sw (X := mR X x1 lt) (fun q => hx q.symm), mR_mR] at t
    exact t
theorem Lt_one (hS : RowSh sh ap) (ho : shp sh o = some (.inl (3, [ap + 3, x1 + 3, x2 + 3, x3 + 3]))) (h1 : shp sh x1 = some (.inr (.inl (0, 6)))) (h2 : shp sh x2 = some (.inr (.inl (0, 6)))) (hx : ¬ x1 = x2) (hp : x1 < ap ∨ ap + 31 ≤ x1) (hp2 : x2 < ap ∨ ap + 31 ≤ x2) {i : Nat} {z : Nat → Int32} (hT : ∀ c, c < 5 → evp sc (d + 1) 125 0 [(0, .ref (ap + 28)), (1, .int (nI i)), (2, .int (nI c))] [] (mk sh (gl (Om X x1 x2 lt ln) ap 31 R)) = some (some (.int (z c)), mk sh (gl (Om X x1 x2 lt ln) ap 31 R))) :
    evp sc (d + 2) 45 0 [(0, .ref o), (1, .int (nI i))] [] (mk sh (gl (Om X x1 x2 lt ln) ap 31 R)) = some (some (.int (if lateI lt z = true then 1 else 0)), mk sh (gl (Om X x1 x2 lt (mxI z ln)) ap 31 R)) := by
  have t4 := hT 4 (by decide)
  have t0 := hT 0 (by decide)
  have t1 := hT 1 (by decide)
  have t2 := hT 2 (by decide)
  rw [show nI 4 = (4 : Int32) from rfl] at t4
  rw [show nI 0 = (0 : Int32) from rfl] at t0
  rw [show nI 1 = (1 : Int32) from rfl] at t1
  rw [show nI 2 = (2 : Int32) from rfl] at t2
  by_cases c1 : z 4 < 0
  · have k : kd z = none := by unfold kd; rw [if_neg (fun q => absurd c1 (Int32.not_lt.mpr q.1))]
    have e1 : lateI lt z = false := by unfold lateI; rw [k]
    have e2 : mxI z ln = ln := by unfold mxI; rw [k]
    rw [e1, e2]
    simp only [s45_0, s45_1, s45_4, s45_7, s45_8, s45_9, s45_12, s45_13, s45_14, s45_17, s45_18, s45_19, s45_22, s45_23, s45_24, s45_25, s45_28, s45_31, s45_32, s45_33, s45_36, s45_37, s45_38, s45_41, s45_44, s45_45, s45_46, s45_49, s45_50, s45_53, s45_56, s45_57, s45_58, s45_61, s45_64, s45_65, s45_66, s45_67, s45_68, s45_70, s45_71, s45_74, s45_76, s45_77, s45_80, s45_82, s45_83, s45_84, s45_87, s45_88, s45_89, s45_90, s45_93, s45_95, s45_96, s45_99, s45_100, s45_103, s45_104, nl_sti, nl_str, nl_ci, nl_cr, nl_nil, ld_cons, ld_st, lr_some, li_some, lj_some, n2_nl, n2_ci, n2_cr, n2_nil, n2_sti, n2_str, tl_some, tl_none, cat_le, List.length_cons, List.length_nil, Option.bind_some, Option.bind_none, Option.map_some, cond_true, cond_false, Bool.and_true, Bool.true_and, reduceIte, Nat.reduceEqDiff, Nat.reduceAdd, Nat.reduceLeDiff, Nat.zero_add, Nat.zero_le, Nat.zero_ne_one, Nat.one_ne_zero, Nat.reduceLT, true_or, or_true, false_or, or_false, false_and, true_and, and_false, and_true, not_false_eq_true, not_true_eq_false, eq_self, mA_A, mA_I, mI_A, mI_I, b01, b10, b01n, b10n, i10, i01, im0, ei_max, ei_min, ei_obj, n30, n20, b011, b101, orn, nor, dneg, dnle, dne, dcl, cat0, cat1, cat2, cat3, cat4, gR0_0, pR0_0, gR0_1, pR0_1, gR0_2, pR0_2, gR0_3, pR0_3, gR0_4, pR0_4, gR0_5, pR0_5, gR0_6, pR0_6, gR0_7, gR0_8, gR0_9, gR0_10, gR0_11, gR0_12, gR0_13, gR0_14, gR0_15, gR0_16, cR0, gR28_0, gR28_1, gR28_2, gR28_3, pR28_3, gR28_4, pR28_4, cR28, cR5, cR17, cR19, cR26, cR30, hS, Ou_g0 ho, t4, c1]
    rfl
  · by_cases c2 : 3 ≤ z 4
    · have k : kd z = none := by unfold kd; rw [if_neg (fun q => absurd q.2 (Int32.not_lt.mpr c2))]
      have e1 : lateI lt z = false := by unfold lateI; rw [k]
      have e2 : mxI z ln = ln := by unfold mxI; rw [k]
      have c3 : (z 4 < 3) = False := eq_false (Int32.not_lt.mpr c2)
      rw [e1, e2]
      simp only [s45_0, s45_1, s45_4, s45_7, s45_8, s45_9, s45_12, s45_13, s45_14, s45_17, s45_18, s45_19, s45_22, s45_23, s45_24, s45_25, s45_28, s45_31, s45_32, s45_33, s45_36, s45_37, s45_38, s45_41, s45_44, s45_45, s45_46, s45_49, s45_50, s45_53, s45_56, s45_57, s45_58, s45_61, s45_64, s45_65, s45_66, s45_67, s45_68, s45_70, s45_71, s45_74, s45_76, s45_77, s45_80, s45_82, s45_83, s45_84, s45_87, s45_88, s45_89, s45_90, s45_93, s45_95, s45_96, s45_99, s45_100, s45_103, s45_104, nl_sti, nl_str, nl_ci, nl_cr, nl_nil, ld_cons, ld_st, lr_some, li_some, lj_some, n2_nl, n2_ci, n2_cr, n2_nil, n2_sti, n2_str, tl_some, tl_none, cat_le, List.length_cons, List.length_nil, Option.bind_some, Option.bind_none, Option.map_some, cond_true, cond_false, Bool.and_true, Bool.true_and, reduceIte, Nat.reduceEqDiff, Nat.reduceAdd, Nat.reduceLeDiff, Nat.zero_add, Nat.zero_le, Nat.zero_ne_one, Nat.one_ne_zero, Nat.reduceLT, true_or, or_true, false_or, or_false, false_and, true_and, and_false, and_true, not_false_eq_true, not_true_eq_false, eq_self, mA_A, mA_I, mI_A, mI_I, b01, b10, b01n, b10n, i10, i01, im0, ei_max, ei_min, ei_obj, n30, n20, b011, b101, orn, nor, dneg, dnle, dne, dcl, cat0, cat1, cat2, cat3, cat4, gR0_0, pR0_0, gR0_1, pR0_1, gR0_2, pR0_2, gR0_3, pR0_3, gR0_4, pR0_4, gR0_5, pR0_5, gR0_6, pR0_6, gR0_7, gR0_8, gR0_9, gR0_10, gR0_11, gR0_12, gR0_13, gR0_14, gR0_15, gR0_16, cR0, gR28_0, gR28_1, gR28_2, gR28_3, pR28_3, gR28_4, pR28_4, cR28, cR5, cR17, cR19, cR26, cR30, hS, Ou_g0 ho, t4, c1, c3]
      rfl
    · obtain ⟨v, hv, e4⟩ := lvl_of c1 c2
      have c3 : (z 4 < 3) = True := eq_true (Int32.not_le.mp c2)
      have k : kd z = some (3 * (if z 2 ≤ z 1 then 1 else 0) + v) := by
        unfold kd
        rw [if_pos ⟨Int32.not_lt.mp c1, Int32.not_le.mp c2⟩, e4, cl_nI hv (by decide)]
      have e1 : lateI lt z = decide (z 0 < lt (3 * (if z 2 ≤ z 1 then 1 else 0) + v)) := by unfold lateI; rw [k]
      have e2 : mxI z ln = up ln (3 * (if z 2 ≤ z 1 then 1 else 0) + v) (if ln (3 * (if z 2 ≤ z 1 then 1 else 0) + v) < z 0 then z 0 else ln (3 * (if z 2 ≤ z 1 then 1 else 0) + v)) := by unfold mxI; rw [k]
      rw [e1, e2]
      by_cases c4 : z 2 ≤ z 1
      · have ea : (1 : Int32) * 3 + z 4 = nI (3 + v) := by rw [e4, show (1 : Int32) * 3 = nI 3 from rfl, nI_add]
        rw [if_pos c4, Nat.mul_one]
        have r1 := om_r1 (sc := sc) (X := X) (R := R) (lt := lt) (ln := up ln (3 + v) (if ln (3 + v) < z 0 then z 0 else ln (3 + v))) h1 hx hp (show 3 + v < 6 by omega)
        have r2 := om_r2 (sc := sc) (X := X) (R := R) (x1 := x1) (lt := lt) (ln := ln) h2 hp2 (show 3 + v < 6 by omega)
        have w2 := om_w2 (X := X) (R := R) (x1 := x1) (lt := lt) (ln := ln) (v := if ln (3 + v) < z 0 then z 0 else ln (3 + v)) h2 hp2 (show 3 + v < 6 by omega)
        by_cases c5 : z 0 < lt (3 + v)
        · have c6 : (lt (3 + v) ≤ z 0) = False := eq_false (Int32.not_le.mpr c5)
          rw [decide_eq_true c5]
          simp only [s45_0, s45_1, s45_4, s45_7, s45_8, s45_9, s45_12, s45_13, s45_14, s45_17, s45_18, s45_19, s45_22, s45_23, s45_24, s45_25, s45_28, s45_31, s45_32, s45_33, s45_36, s45_37, s45_38, s45_41, s45_44, s45_45, s45_46, s45_49, s45_50, s45_53, s45_56, s45_57, s45_58, s45_61, s45_64, s45_65, s45_66, s45_67, s45_68, s45_70, s45_71, s45_74, s45_76, s45_77, s45_80, s45_82, s45_83, s45_84, s45_87, s45_88, s45_89, s45_90, s45_93, s45_95, s45_96, s45_99, s45_100, s45_103, s45_104, nl_sti, nl_str, nl_ci, nl_cr, nl_nil, ld_cons, ld_st, lr_some, li_some, lj_some, n2_nl, n2_ci, n2_cr, n2_nil, n2_sti, n2_str, tl_some, tl_none, cat_le, List.length_cons, List.length_nil, Option.bind_some, Option.bind_none, Option.map_some, cond_true, cond_false, Bool.and_true, Bool.true_and, reduceIte, Nat.reduceEqDiff, Nat.reduceAdd, Nat.reduceLeDiff, Nat.zero_add, Nat.zero_le, Nat.zero_ne_one, Nat.one_ne_zero, Nat.reduceLT, true_or, or_true, false_or, or_false, false_and, true_and, and_false, and_true, not_false_eq_true, not_true_eq_false, eq_self, mA_A, mA_I, mI_A, mI_I, b01, b10, b01n, b10n, i10, i01, im0, ei_max, ei_min, ei_obj, n30, n20, b011, b101, orn, nor, dneg, dnle, dne, dcl, cat0, cat1, cat2, cat3, cat4, gR0_0, pR0_0, gR0_1, pR0_1, gR0_2, pR0_2, gR0_3, pR0_3, gR0_4, pR0_4, gR0_5, pR0_5, gR0_6, pR0_6, gR0_7, gR0_8, gR0_9, gR0_10, gR0_11, gR0_12, gR0_13, gR0_14, gR0_15, gR0_16, cR0, gR28_0, gR28_1, gR28_2, gR28_3, pR28_3, gR28_4, pR28_4, cR28, cR5, cR17, cR19, cR26, cR30, hS, Ou_g0 ho, Ou_g1 ho, Ou_g2 ho, t4, t0, t1, t2, c1, c3, R_busOf, c4, ea, i1001, r1, r2, w2, c6]
        · have c6 : (lt (3 + v) ≤ z 0) = True := eq_true (Int32.not_lt.mp c5)
          rw [decide_eq_false c5]
          simp only [s45_0, s45_1, s45_4, s45_7, s45_8, s45_9, s45_12, s45_13, s45_14, s45_17, s45_18, s45_19, s45_22, s45_23, s45_24, s45_25, s45_28, s45_31, s45_32, s45_33, s45_36, s45_37, s45_38, s45_41, s45_44, s45_45, s45_46, s45_49, s45_50, s45_53, s45_56, s45_57, s45_58, s45_61, s45_64, s45_65, s45_66, s45_67, s45_68, s45_70, s45_71, s45_74, s45_76, s45_77, s45_80, s45_82, s45_83, s45_84, s45_87, s45_88, s45_89, s45_90, s45_93, s45_95, s45_96, s45_99, s45_100, s45_103, s45_104, nl_sti, nl_str, nl_ci, nl_cr, nl_nil, ld_cons, ld_st, lr_some, li_some, lj_some, n2_nl, n2_ci, n2_cr, n2_nil, n2_sti, n2_str, tl_some, tl_none, cat_le, List.length_cons, List.length_nil, Option.bind_some, Option.bind_none, Option.map_some, cond_true, cond_false, Bool.and_true, Bool.true_and, reduceIte, Nat.reduceEqDiff, Nat.reduceAdd, Nat.reduceLeDiff, Nat.zero_add, Nat.zero_le, Nat.zero_ne_one, Nat.one_ne_zero, Nat.reduceLT, true_or, or_true, false_or, or_false, false_and, true_and, and_false, and_true, not_false_eq_true, not_true_eq_false, eq_self, mA_A, mA_I, mI_A, mI_I, b01, b10, b01n, b10n, i10, i01, im0, ei_max, ei_min, ei_obj, n30, n20, b011, b101, orn, nor, dneg, dnle, dne, dcl, cat0, cat1, cat2, cat3, cat4, gR0_0, pR0_0, gR0_1, pR0_1, gR0_2, pR0_2, gR0_3, pR0_3, gR0_4, pR0_4, gR0_5, pR0_5, gR0_6, pR0_6, gR0_7, gR0_8, gR0_9, gR0_10, gR0_11, gR0_12, gR0_13, gR0_14, gR0_15, gR0_16, cR0, gR28_0, gR28_1, gR28_2, gR28_3, pR28_3, gR28_4, pR28_4, cR28, cR5, cR17, cR19, cR26, cR30, hS, Ou_g0 ho, Ou_g1 ho, Ou_g2 ho, t4, t0, t1, t2, c1, c3, R_busOf, c4, ea, i1001, r1, r2, w2, c6]
          rfl
      · have ea : (0 : Int32) * 3 + z 4 = nI v := by rw [e4, show (0 : Int32) * 3 = nI 0 from rfl, nI_add, Nat.zero_add]
        rw [if_neg c4, Nat.mul_zero, Nat.zero_add]
        have r1 := om_r1 (sc := sc) (X := X) (R := R) (lt := lt) (ln := up ln v (if ln v < z 0 then z 0 else ln v)) h1 hx hp (show v < 6 by omega)
        have r2 := om_r2 (sc := sc) (X := X) (R := R) (x1 := x1) (lt := lt) (ln := ln) h2 hp2 (show v < 6 by omega)
        have w2 := om_w2 (X := X) (R := R) (x1 := x1) (lt := lt) (ln := ln) (v := if ln v < z 0 then z 0 else ln v) h2 hp2 (show v < 6 by omega)
        by_cases c5 : z 0 < lt v
        · have c6 : (lt v ≤ z 0) = False := eq_false (Int32.not_le.mpr c5)
          rw [decide_eq_true c5]
          simp only [s45_0, s45_1, s45_4, s45_7, s45_8, s45_9, s45_12, s45_13, s45_14, s45_17, s45_18, s45_19, s45_22, s45_23, s45_24, s45_25, s45_28, s45_31, s45_32, s45_33, s45_36, s45_37, s45_38, s45_41, s45_44, s45_45, s45_46, s45_49, s45_50, s45_53, s45_56, s45_57, s45_58, s45_61, s45_64, s45_65, s45_66, s45_67, s45_68, s45_70, s45_71, s45_74, s45_76, s45_77, s45_80, s45_82, s45_83, s45_84, s45_87, s45_88, s45_89, s45_90, s45_93, s45_95, s45_96, s45_99, s45_100, s45_103, s45_104, nl_sti, nl_str, nl_ci, nl_cr, nl_nil, ld_cons, ld_st, lr_some, li_some, lj_some, n2_nl, n2_ci, n2_cr, n2_nil, n2_sti, n2_str, tl_some, tl_none, cat_le, List.length_cons, List.length_nil, Option.bind_some, Option.bind_none, Option.map_some, cond_true, cond_false, Bool.and_true, Bool.true_and, reduceIte, Nat.reduceEqDiff, Nat.reduceAdd, Nat.reduceLeDiff, Nat.zero_add, Nat.zero_le, Nat.zero_ne_one, Nat.one_ne_zero, Nat.reduceLT, true_or, or_true, false_or, or_false, false_and, true_and, and_false, and_true, not_false_eq_true, not_true_eq_false, eq_self, mA_A, mA_I, mI_A, mI_I, b01, b10, b01n, b10n, i10, i01, im0, ei_max, ei_min, ei_obj, n30, n20, b011, b101, orn, nor, dneg, dnle, dne, dcl, cat0, cat1, cat2, cat3, cat4, gR0_0, pR0_0, gR0_1, pR0_1, gR0_2, pR0_2, gR0_3, pR0_3, gR0_4, pR0_4, gR0_5, pR0_5, gR0_6, pR0_6, gR0_7, gR0_8, gR0_9, gR0_10, gR0_11, gR0_12, gR0_13, gR0_14, gR0_15, gR0_16, cR0, gR28_0, gR28_1, gR28_2, gR28_3, pR28_3, gR28_4, pR28_4, cR28, cR5, cR17, cR19, cR26, cR30, hS, Ou_g0 ho, Ou_g1 ho, Ou_g2 ho, t4, t0, t1, t2, c1, c3, R_busOf, c4, ea, i1001, r1, r2, w2, c6]
        · have c6 : (lt v ≤ z 0) = True := eq_true (Int32.not_lt.mp c5)
          rw [decide_eq_false c5]
          simp only [s45_0, s45_1, s45_4, s45_7, s45_8, s45_9, s45_12, s45_13, s45_14, s45_17, s45_18, s45_19, s45_22, s45_23, s45_24, s45_25, s45_28, s45_31, s45_32, s45_33, s45_36, s45_37, s45_38, s45_41, s45_44, s45_45, s45_46, s45_49, s45_50, s45_53, s45_56, s45_57, s45_58, s45_61, s45_64, s45_65, s45_66, s45_67, s45_68, s45_70, s45_71, s45_74, s45_76, s45_77, s45_80, s45_82, s45_83, s45_84, s45_87, s45_88, s45_89, s45_90, s45_93, s45_95, s45_96, s45_99, s45_100, s45_103, s45_104, nl_sti, nl_str, nl_ci, nl_cr, nl_nil, ld_cons, ld_st, lr_some, li_some, lj_some, n2_nl, n2_ci, n2_cr, n2_nil, n2_sti, n2_str, tl_some, tl_none, cat_le, List.length_cons, List.length_nil, Option.bind_some, Option.bind_none, Option.map_some, cond_true, cond_false, Bool.and_true, Bool.true_and, reduceIte, Nat.reduceEqDiff, Nat.reduceAdd, Nat.reduceLeDiff, Nat.zero_add, Nat.zero_le, Nat.zero_ne_one, Nat.one_ne_zero, Nat.reduceLT, true_or, or_true, false_or, or_false, false_and, true_and, and_false, and_true, not_false_eq_true, not_true_eq_false, eq_self, mA_A, mA_I, mI_A, mI_I, b01, b10, b01n, b10n, i10, i01, im0, ei_max, ei_min, ei_obj, n30, n20, b011, b101, orn, nor, dneg, dnle, dne, dcl, cat0, cat1, cat2, cat3, cat4, gR0_0, pR0_0, gR0_1, pR0_1, gR0_2, pR0_2, gR0_3, pR0_3, gR0_4, pR0_4, gR0_5, pR0_5, gR0_6, pR0_6, gR0_7, gR0_8, gR0_9, gR0_10, gR0_11, gR0_12, gR0_13, gR0_14, gR0_15, gR0_16, cR0, gR28_0, gR28_1, gR28_2, gR28_3, pR28_3, gR28_4, pR28_4, cR28, cR5, cR17, cR19, cR26, cR30, hS, Ou_g0 ho, Ou_g1 ho, Ou_g2 ho, t4, t0, t1, t2, c1, c3, R_busOf, c4, ea, i1001, r1, r2, w2, c6]
          rfl
end
