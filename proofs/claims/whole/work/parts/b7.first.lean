/-! FIRST COME as a call -/
theorem bdB_iff {nws : List (List (Nat → Int32))} {s1 s2 : Nat} {x y : Sg} (hl : nws.length ≤ 200) : bdB (lnd 0 nws) s1 x s2 y = true ↔ FcB nws s1 x s2 y := by
  unfold bdB FcB
  simp only [Bool.and_eq_true, decide_eq_true_eq]
  refine and_congr_right fun _ => and_congr_right fun _ => and_congr_right fun _ => ?_
  have px := plc_ix (x := x.1) nws 0 0
  have py := plc_ix (x := y.1) nws 0 0
  rw [show nI 0 = (0 : Int32) from rfl] at px py
  cases ex : ixN x.1 nws with
  | none =>
    rw [ex] at px
    simp only at px
    rw [px]
    constructor
    · intro q
      simp at q
    · rintro ⟨i, j, q, -⟩
      cases q
  | some j =>
    rw [ex] at px
    obtain ⟨p, hp⟩ := px
    rw [hp]
    cases ey : ixN y.1 nws with
    | none =>
      rw [ey] at py
      simp only at py
      rw [py]
      constructor
      · intro q
        simp at q
      · rintro ⟨i, j, -, q, -⟩
        cases q
    | some i =>
      rw [ey] at py
      obtain ⟨p2, hp2⟩ := py
      rw [hp2]
      obtain ⟨z, ⟨nw, q1, -⟩, -⟩ := ixN_some ex
      obtain ⟨z2, ⟨nw2, q2, -⟩, -⟩ := ixN_some ey
      have hj := (List.getElem?_eq_some_iff.mp q1).1
      have hi := (List.getElem?_eq_some_iff.mp q2).1
      simp only [decide_eq_true_eq]
      rw [nI_ltE (by omega) (by omega)]
      constructor
      · intro q
        exact ⟨i, j, rfl, rfl, by omega⟩
      · rintro ⟨i', j', e1, e2, q⟩
        cases e1
        cases e2
        omega
theorem bdA_iff {LL : List (Int32 × Int32)} {wl : Nat → List Sg} {n : Nat} : bdA LL wl n = true ↔ ∃ s1 x s2 y, s1 < n ∧ s2 < n ∧ x ∈ wl s1 ∧ y ∈ wl s2 ∧ bdB LL s1 x s2 y = true := by
  unfold bdA
  rw [List.any_eq_true]
  constructor
  · rintro ⟨s1, m1, h⟩
    unfold bdR at h
    obtain ⟨s2, m2, h⟩ := List.any_eq_true.mp h
    unfold bdS at h
    obtain ⟨x, m3, h⟩ := List.any_eq_true.mp h
    unfold bdX at h
    obtain ⟨y, m4, h⟩ := List.any_eq_true.mp h
    rw [List.mem_range'_1] at m1 m2
    exact ⟨s1, x, s2, y, by omega, by omega, m3, m4, h⟩
  · rintro ⟨s1, x, s2, y, h1, h2, h3, h4, h5⟩
    refine ⟨s1, List.mem_range'_1.mpr (by omega), List.any_eq_true.mpr ⟨s2, List.mem_range'_1.mpr (by omega), List.any_eq_true.mpr ⟨x, h3, List.any_eq_true.mpr ⟨y, h4, h5⟩⟩⟩⟩
section
variable {sc sc2 : aS} {d d2 : Nat} {sh sh2 : List sE} {M M2 W R : aM} {a a2 s tp sr p o dr rf kk ap x1 x2 x3 : Nat} {n dl bal lv t B : Nat} {wl : Nat → List Sg} {al l : List (Nat → Int32)} {lg : LgT} {Ln : Nat → List (Option Se)}
theorem Cz_loop (ho : shp sh o = some (.inl (3, [ap + 3, x1 + 3, x2 + 3, x3 + 3]))) (h1' : shp sh x1 = some (.inr (.inl (0, 6)))) (h2' : shp sh x2 = some (.inr (.inl (0, 6)))) (hx : ¬ x1 = x2) (hp : x1 < ap ∨ ap + 31 ≤ x1) (hp2 : x2 < ap ∨ ap + 31 ≤ x2) : ∀ (k i : Nat) (lt ln : Nat → Int32) (L : aL), i + k = 6 → (∀ j, j < i → lt j = 0 ∧ ln j = 0) → e_n2 L → e_ld L 0 = some (.ref o) → e_ld L 1 = some (.ref a) → e_ld L 2 = some (.int (nI i)) → ∃ lt' ln' L', (∀ j, j < 6 → lt' j = 0 ∧ ln' j = 0) ∧ (e_n2 L' ∧ e_ld L' 0 = some (.ref o) ∧ e_ld L' 1 = some (.ref a)) ∧ evp sc d 44 20 L [] (mk sh (gl (Om M x1 x2 lt ln) ap 31 R)) = evp sc d 44 49 L' [] (mk sh (gl (Om M x1 x2 lt' ln') ap 31 R))
  | 0, i, lt, ln, L, hi, hz, hL, h0, h1, h2 => by
    have ar : e_arr sc (mk sh (gl (Om M x1 x2 lt ln) ap 31 R)) x1 0 = some (6, lt) := by
      rw [arr_mk h1', gl_Ao hp]
      unfold Om
      rw [mR_o hx, mR_s]
    have e6 : Int32.ofNat 6 = (6 : Int32) := rfl
    have c1 : ((6 : Int32) ≤ nI i) = True := eq_true (nI_le (a := 6) (by omega) (by omega))
    refine ⟨lt, ln, L, fun j hj => hz j (by omega), ⟨hL, h0, h1⟩, ?_⟩
    rw [s44_20]
    simp only [s44_21, s44_22, s44_25, s44_26, nl_sti, nl_str, nl_ci, nl_cr, nl_nil, ld_cons, ld_st, lr_some, li_some, lj_some, n2_nl, n2_ci, n2_cr, n2_nil, n2_sti, n2_str, tl_some, tl_none, cat_le, List.length_cons, List.length_nil, Option.bind_some, Option.bind_none, Option.map_some, cond_true, cond_false, Bool.and_true, Bool.true_and, reduceIte, Nat.reduceEqDiff, Nat.reduceAdd, Nat.reduceLeDiff, Nat.zero_add, Nat.zero_le, Nat.zero_ne_one, Nat.one_ne_zero, Nat.reduceLT, true_or, or_true, false_or, or_false, false_and, true_and, and_false, and_true, not_false_eq_true, not_true_eq_false, eq_self, mA_A, mA_I, mI_A, mI_I, b01, b10, b01n, b10n, i10, i01, im0, ei_max, ei_min, ei_obj, n30, n20, b011, b101, orn, nor, dneg, dnle, dne, dcl, cat0, cat1, cat2, cat3, cat4, Ou_g1 ho, hL, h0, h1, h2, ar, e6, c1]
  | k + 1, i, lt, ln, L, hi, hz, hL, h0, h1, h2 => by
    have ar : e_arr sc (mk sh (gl (Om M x1 x2 lt ln) ap 31 R)) x1 0 = some (6, lt) := by
      rw [arr_mk h1', gl_Ao hp]
      unfold Om
      rw [mR_o hx, mR_s]
    have e6 : Int32.ofNat 6 = (6 : Int32) := rfl
    have c1 : ((6 : Int32) ≤ nI i) = False := eq_false (nI_ge (b := 6) (by omega) (by omega))
    have w1 := om_w1 (X := M) (R := R) (lt := lt) (ln := ln) (v := 0) h1' hx hp (show i < 6 by omega)
    have w2 := om_w2 (X := M) (R := R) (x1 := x1) (lt := up lt i 0) (ln := ln) (v := 0) h2' hp2 (show i < 6 by omega)
    obtain ⟨lt', ln', L', l1, l2, l3⟩ := Cz_loop ho h1' h2' hx hp hp2 k (i + 1) (up lt i 0) (up ln i 0) (e_st1 L 2 (.int (nI (i + 1)))) (by omega) (fun j hj => by
      by_cases q : j = i
      · subst q
        exact ⟨up_s _ _ _, up_s _ _ _⟩
      · rw [up_o q, up_o q]
        exact hz j (by omega)) (by simp (maxDischargeDepth := 9) only [nl_sti, nl_str, nl_ci, nl_cr, nl_nil, ld_cons, ld_st, lr_some, li_some, lj_some, n2_nl, n2_ci, n2_cr, n2_nil, n2_sti, n2_str, tl_some, tl_none, cat_le, List.length_cons, List.length_nil, Option.bind_some, Option.bind_none, Option.map_some, cond_true, cond_false, Bool.and_true, Bool.true_and, reduceIte, Nat.reduceEqDiff, Nat.reduceAdd, Nat.reduceLeDiff, Nat.zero_add, Nat.zero_le, Nat.zero_ne_one, Nat.one_ne_zero, Nat.reduceLT, true_or, or_true, false_or, or_false, false_and, true_and, and_false, and_true, not_false_eq_true, not_true_eq_false, eq_self, mA_A, mA_I, mI_A, mI_I, b01, b10, b01n, b10n, i10, i01, im0, ei_max, ei_min, ei_obj, n30, n20, hL]) (by simp only [nl_sti, nl_str, nl_ci, nl_cr, nl_nil, ld_cons, ld_st, lr_some, li_some, lj_some, n2_nl, n2_ci, n2_cr, n2_nil, n2_sti, n2_str, tl_some, tl_none, cat_le, List.length_cons, List.length_nil, Option.bind_some, Option.bind_none, Option.map_some, cond_true, cond_false, Bool.and_true, Bool.true_and, reduceIte, Nat.reduceEqDiff, Nat.reduceAdd, Nat.reduceLeDiff, Nat.zero_add, Nat.zero_le, Nat.zero_ne_one, Nat.one_ne_zero, Nat.reduceLT, true_or, or_true, false_or, or_false, false_and, true_and, and_false, and_true, not_false_eq_true, not_true_eq_false, eq_self, mA_A, mA_I, mI_A, mI_I, b01, b10, b01n, b10n, i10, i01, im0, ei_max, ei_min, ei_obj, n30, n20, h0]) (by simp only [nl_sti, nl_str, nl_ci, nl_cr, nl_nil, ld_cons, ld_st, lr_some, li_some, lj_some, n2_nl, n2_ci, n2_cr, n2_nil, n2_sti, n2_str, tl_some, tl_none, cat_le, List.length_cons, List.length_nil, Option.bind_some, Option.bind_none, Option.map_some, cond_true, cond_false, Bool.and_true, Bool.true_and, reduceIte, Nat.reduceEqDiff, Nat.reduceAdd, Nat.reduceLeDiff, Nat.zero_add, Nat.zero_le, Nat.zero_ne_one, Nat.one_ne_zero, Nat.reduceLT, true_or, or_true, false_or, or_false, false_and, true_and, and_false, and_true, not_false_eq_true, not_true_eq_false, eq_self, mA_A, mA_I, mI_A, mI_I, b01, b10, b01n, b10n, i10, i01, im0, ei_max, ei_min, ei_obj, n30, n20, h1]) (by simp only [nl_sti, nl_str, nl_ci, nl_cr, nl_nil, ld_cons, ld_st, lr_some, li_some, lj_some, n2_nl, n2_ci, n2_cr, n2_nil, n2_sti, n2_str, tl_some, tl_none, cat_le, List.length_cons, List.length_nil, Option.bind_some, Option.bind_none, Option.map_some, cond_true, cond_false, Bool.and_true, Bool.true_and, reduceIte, Nat.reduceEqDiff, Nat.reduceAdd, Nat.reduceLeDiff, Nat.zero_add, Nat.zero_le, Nat.zero_ne_one, Nat.one_ne_zero, Nat.reduceLT, true_or, or_true, false_or, or_false, false_and, true_and, and_false, and_true, not_false_eq_true, not_true_eq_false, eq_self, mA_A, mA_I, mI_A, mI_I, b01, b10, b01n, b10n, i10, i01, im0, ei_max, ei_min, ei_obj, n30, n20])
    refine ⟨lt', ln', L', l1, l2, ?_⟩
    rw [← l3, s44_20]
    simp (maxDischargeDepth := 9) only [s44_21, s44_22, s44_25, s44_26, s44_29, s44_30, s44_33, s44_34, s44_35, s44_36, s44_37, s44_40, s44_41, s44_42, s44_43, s44_46, nl_sti, nl_str, nl_ci, nl_cr, nl_nil, ld_cons, ld_st, lr_some, li_some, lj_some, n2_nl, n2_ci, n2_cr, n2_nil, n2_sti, n2_str, tl_some, tl_none, cat_le, List.length_cons, List.length_nil, Option.bind_some, Option.bind_none, Option.map_some, cond_true, cond_false, Bool.and_true, Bool.true_and, reduceIte, Nat.reduceEqDiff, Nat.reduceAdd, Nat.reduceLeDiff, Nat.zero_add, Nat.zero_le, Nat.zero_ne_one, Nat.one_ne_zero, Nat.reduceLT, true_or, or_true, false_or, or_false, false_and, true_and, and_false, and_true, not_false_eq_true, not_true_eq_false, eq_self, mA_A, mA_I, mI_A, mI_I, b01, b10, b01n, b10n, i10, i01, im0, ei_max, ei_min, ei_obj, n30, n20, b011, b101, orn, nor, dneg, dnle, dne, dcl, cat0, cat1, cat2, cat3, cat4, Ou_g1 ho, Ou_g2 ho, hL, h0, h1, h2, ar, e6, c1, w1, w2, nI_1]
set_option maxRecDepth 100000 in
theorem Q_first (hb : BusSh sh s tp sr a p o dr rf kk) (hS : RowSh sh ap) (hT : RowSh sh a) (hD : a + 31 ≤ ap ∨ ap + 31 ≤ a) (ho : shp sh o = some (.inl (3, [ap + 3, x1 + 3, x2 + 3, x3 + 3]))) (h1' : shp sh x1 = some (.inr (.inl (0, 6)))) (h2' : shp sh x2 = some (.inr (.inl (0, 6)))) (hx : ¬ x1 = x2) (hp : x1 < ap ∨ ap + 31 ≤ x1) (hp2 : x2 < ap ∨ ap + 31 ≤ x2) (hS2 : ModSh sh2 a2) (hTd : TdC (lc M ap)) (h : RI (lc M a) (W.2.1 8) n dl bal lv t B wl al lg Ln) (hW : cW W n dl bal lv) (ht : t ≤ 9999) (hB : B + 1000000 < 2 ^ 31) : ∃ ans R' lt' ln' W', evp sc (d + 8) 159 0 [(0, .ref s)] [] (mk sh M) = some (some (.int ans), mk sh (gl (Om M x1 x2 lt' ln') ap 31 R')) ∧ evp sc2 (d2 + 10) 276 0 [(0, .ref a2)] [] (mk sh2 (gl M2 a2 15 W)) = some (some (.int ans), mk sh2 (gl M2 a2 15 W')) ∧ FrY W W' ∧ TdC R' := by
  have hn8 : n ≤ 8 := h.1.1.2.1
  have hdl : dl ≤ 3 := h.1.1.2.2.2.1
  have hlv3 : lv ≤ 3 := h.1.1.2.2.2.2.2.1
  have hn2 : 2 ≤ n := h.1.2.2.2.2.2.2.1
  have m0 : M.1 a 0 = nI n := h.1.1.1
  have m6 : M.1 a 6 = nI t := h.1.1.2.2.2.2.2.2.1
  have hn0 : (nI n = 0) = False := eq_false (nI_ne0 (by omega) (by omega))
  have w1 := hW.1
  have hq := h.2.2.2.2.1.2.1
  have hU : Uq ((lc M a).1 19 0) wl Ln := h.2.2.2.2.2.2.2.2.2.2.2
  have r0 : e_gf (mk sh M) a 5 0 = some (.int (M.1 a 0)) := Ro_0 hT
  obtain ⟨l1, l2⟩ := lft_le ht
  have hW0 : cW (mI W 0 0 0) n dl bal lv := hW.thr
  have t1 := R_copy (sc := sc) (d := d + 4) (M := M) (R := lc M ap) hS hT hD
  rw [gl_lc] at t1
  have TI0 := Look0 (R := lc M ap) (W := mI W 0 0 0) (g := cpF (W.2.1 8) (W.2.1 9) 0 0 1922) h hTd cp8 hW0
  obtain ⟨R1, tm, g1, g2, g3⟩ := H_markAll (sc := sc) (d := d + 6) (M := M) (a := ap) (R := rCopy (lc M ap) (lc M a)) hS
  obtain ⟨RI0, c0, c1⟩ := TI_RI.mp TI0
  have TI1 : TI R1 (mI (mI (mI W 0 0 0) 0 31 0) 0 32 0, cpF (W.2.1 8) (W.2.1 9) 0 0 1922) n dl bal lv t B wl al lg [] (mkLn Ln) := TI_RI.mpr ⟨RI_mark RI0 g1 g2 g3, c0, c1⟩
  obtain ⟨lt0, ln0, L0, z1, ⟨z2, z3, z4⟩, z5⟩ := Cz_loop (sc := sc) (d := d + 7) (M := M) (R := R1) (a := a) ho h1' h2' hx hp hp2 6 0 (M.2.1 x1) (M.2.1 x2) (e_st1 [(0, .ref o), (1, .ref a)] 2 (.int (nI 0))) (by omega) (fun j hj => absurd hj (Nat.not_lt_zero j)) (by simp (maxDischargeDepth := 9) only [nl_sti, nl_str, nl_ci, nl_cr, nl_nil, ld_cons, ld_st, lr_some, li_some, lj_some, n2_nl, n2_ci, n2_cr, n2_nil, n2_sti, n2_str, tl_some, tl_none, cat_le, List.length_cons, List.length_nil, Option.bind_some, Option.bind_none, Option.map_some, cond_true, cond_false, Bool.and_true, Bool.true_and, reduceIte, Nat.reduceEqDiff, Nat.reduceAdd, Nat.reduceLeDiff, Nat.zero_add, Nat.zero_le, Nat.zero_ne_one, Nat.one_ne_zero, Nat.reduceLT, true_or, or_true, false_or, or_false, false_and, true_and, and_false, and_true, not_false_eq_true, not_true_eq_false, eq_self, mA_A, mA_I, mI_A, mI_I, b01, b10, b01n, b10n, i10, i01, im0, ei_max, ei_min, ei_obj, n30, n20]) (by simp only [nl_sti, nl_str, nl_ci, nl_cr, nl_nil, ld_cons, ld_st, lr_some, li_some, lj_some, n2_nl, n2_ci, n2_cr, n2_nil, n2_sti, n2_str, tl_some, tl_none, cat_le, List.length_cons, List.length_nil, Option.bind_some, Option.bind_none, Option.map_some, cond_true, cond_false, Bool.and_true, Bool.true_and, reduceIte, Nat.reduceEqDiff, Nat.reduceAdd, Nat.reduceLeDiff, Nat.zero_add, Nat.zero_le, Nat.zero_ne_one, Nat.one_ne_zero, Nat.reduceLT, true_or, or_true, false_or, or_false, false_and, true_and, and_false, and_true, not_false_eq_true, not_true_eq_false, eq_self, mA_A, mA_I, mI_A, mI_I, b01, b10, b01n, b10n, i10, i01, im0, ei_max, ei_min, ei_obj, n30, n20]) (by simp only [nl_sti, nl_str, nl_ci, nl_cr, nl_nil, ld_cons, ld_st, lr_some, li_some, lj_some, n2_nl, n2_ci, n2_cr, n2_nil, n2_sti, n2_str, tl_some, tl_none, cat_le, List.length_cons, List.length_nil, Option.bind_some, Option.bind_none, Option.map_some, cond_true, cond_false, Bool.and_true, Bool.true_and, reduceIte, Nat.reduceEqDiff, Nat.reduceAdd, Nat.reduceLeDiff, Nat.zero_add, Nat.zero_le, Nat.zero_ne_one, Nat.one_ne_zero, Nat.reduceLT, true_or, or_true, false_or, or_false, false_and, true_and, and_false, and_true, not_false_eq_true, not_true_eq_false, eq_self, mA_A, mA_I, mI_A, mI_I, b01, b10, b01n, b10n, i10, i01, im0, ei_max, ei_min, ei_obj, n30, n20]) (by simp only [nl_sti, nl_str, nl_ci, nl_cr, nl_nil, ld_cons, ld_st, lr_some, li_some, lj_some, n2_nl, n2_ci, n2_cr, n2_nil, n2_sti, n2_str, tl_some, tl_none, cat_le, List.length_cons, List.length_nil, Option.bind_some, Option.bind_none, Option.map_some, cond_true, cond_false, Bool.and_true, Bool.true_and, reduceIte, Nat.reduceEqDiff, Nat.reduceAdd, Nat.reduceLeDiff, Nat.zero_add, Nat.zero_le, Nat.zero_ne_one, Nat.one_ne_zero, Nat.reduceLT, true_or, or_true, false_or, or_false, false_and, true_and, and_false, and_true, not_false_eq_true, not_true_eq_false, eq_self, mA_A, mA_I, mI_A, mI_I, b01, b10, b01n, b10n, i10, i01, im0, ei_max, ei_min, ei_obj, n30, n20])
  have eM : Om M x1 x2 (M.2.1 x1) (M.2.1 x2) = M := by
    unfold Om
    rw [mR_self, mR_self]
  rw [eM] at z5
  have tl := C_left (sc := sc) (d := d + 5) (M := gl (Om M x1 x2 lt0 ln0) ap 31 R1) hT ((gl_Io (by omega)).trans m6) ht
  obtain ⟨nws, jl, ok, ⟨t', B', wl', al', Ln', j3⟩, hfl, hca, R', lt', ln', q1, q2⟩ := Co_loop (sc := sc) (d := d) (X := M) hS ho h1' h2' hx hp hp2 hn8 l1 (lft t) 0 R1 _ t B wl al [] (mkLn Ln) lt0 ln0 (e_st1 (e_st1 L0 2 (.int (nI (lft t)))) 3 (.int (nI (0 + 1)))) (by omega) TI1 (by omega) (by omega) (by show 0 + _ ≤ _; omega) (fun j hj => by rw [(z1 j hj).1, (z1 j hj).2]) (by simp (maxDischargeDepth := 9) only [nl_sti, nl_str, nl_ci, nl_cr, nl_nil, ld_cons, ld_st, lr_some, li_some, lj_some, n2_nl, n2_ci, n2_cr, n2_nil, n2_sti, n2_str, tl_some, tl_none, cat_le, List.length_cons, List.length_nil, Option.bind_some, Option.bind_none, Option.map_some, cond_true, cond_false, Bool.and_true, Bool.true_and, reduceIte, Nat.reduceEqDiff, Nat.reduceAdd, Nat.reduceLeDiff, Nat.zero_add, Nat.zero_le, Nat.zero_ne_one, Nat.one_ne_zero, Nat.reduceLT, true_or, or_true, false_or, or_false, false_and, true_and, and_false, and_true, not_false_eq_true, not_true_eq_false, eq_self, mA_A, mA_I, mI_A, mI_I, b01, b10, b01n, b10n, i10, i01, im0, ei_max, ei_min, ei_obj, n30, n20, z2]) (by simp only [nl_sti, nl_str, nl_ci, nl_cr, nl_nil, ld_cons, ld_st, lr_some, li_some, lj_some, n2_nl, n2_ci, n2_cr, n2_nil, n2_sti, n2_str, tl_some, tl_none, cat_le, List.length_cons, List.length_nil, Option.bind_some, Option.bind_none, Option.map_some, cond_true, cond_false, Bool.and_true, Bool.true_and, reduceIte, Nat.reduceEqDiff, Nat.reduceAdd, Nat.reduceLeDiff, Nat.zero_add, Nat.zero_le, Nat.zero_ne_one, Nat.one_ne_zero, Nat.reduceLT, true_or, or_true, false_or, or_false, false_and, true_and, and_false, and_true, not_false_eq_true, not_true_eq_false, eq_self, mA_A, mA_I, mI_A, mI_I, b01, b10, b01n, b10n, i10, i01, im0, ei_max, ei_min, ei_obj, n30, n20, z3]) (by simp only [nl_sti, nl_str, nl_ci, nl_cr, nl_nil, ld_cons, ld_st, lr_some, li_some, lj_some, n2_nl, n2_ci, n2_cr, n2_nil, n2_sti, n2_str, tl_some, tl_none, cat_le, List.length_cons, List.length_nil, Option.bind_some, Option.bind_none, Option.map_some, cond_true, cond_false, Bool.and_true, Bool.true_and, reduceIte, Nat.reduceEqDiff, Nat.reduceAdd, Nat.reduceLeDiff, Nat.zero_add, Nat.zero_le, Nat.zero_ne_one, Nat.one_ne_zero, Nat.reduceLT, true_or, or_true, false_or, or_false, false_and, true_and, and_false, and_true, not_false_eq_true, not_true_eq_false, eq_self, mA_A, mA_I, mI_A, mI_I, b01, b10, b01n, b10n, i10, i01, im0, ei_max, ei_min, ei_obj, n30, n20]) (by simp only [nl_sti, nl_str, nl_ci, nl_cr, nl_nil, ld_cons, ld_st, lr_some, li_some, lj_some, n2_nl, n2_ci, n2_cr, n2_nil, n2_sti, n2_str, tl_some, tl_none, cat_le, List.length_cons, List.length_nil, Option.bind_some, Option.bind_none, Option.map_some, cond_true, cond_false, Bool.and_true, Bool.true_and, reduceIte, Nat.reduceEqDiff, Nat.reduceAdd, Nat.reduceLeDiff, Nat.zero_add, Nat.zero_le, Nat.zero_ne_one, Nat.one_ne_zero, Nat.reduceLT, true_or, or_true, false_or, or_false, false_and, true_and, and_false, and_true, not_false_eq_true, not_true_eq_false, eq_self, mA_A, mA_I, mI_A, mI_I, b01, b10, b01n, b10n, i10, i01, im0, ei_max, ei_min, ei_obj, n30, n20])
  have tf := M_foresees (sc := sc2) (d := d2) (M := M2) (W := mI W 0 0 0) hS2 ht h.1.2.2.2.2.2.1 hn8 hdl hlv3 ok
  have e32 : (mI (mI (mI W 0 0 0) 0 31 0) 0 32 0).1 0 32 = 0 := by rw [mI_At, if_pos rfl]
  have hld := j3.1.2.2.2.2.2.2.2.2.2
  rw [e32, List.nil_append] at hld
  have hll : (lnd 0 nws).length ≤ 3300 := by rw [lnd_len]; omega
  have fg := mGo_G (n := n) (dl := dl) (lv := lv) (lft t) (mI (mI (mI W 0 0 0) 0 31 0) 0 32 0, cpF (W.2.1 8) (W.2.1 9) 0 0 1922)
  simp only [mI_A] at tf
  generalize mGo n dl lv (lft t) (mI (mI (mI W 0 0 0) 0 31 0) 0 32 0, cpF (W.2.1 8) (W.2.1 9) 0 0 1922) = P at hld tf fg j3
  have fy : FrY W (mR P.1 9 P.2) := ((((FrY_thr W 0).tr (FrY_I _ (by unfold frF; omega))).tr (FrY_I _ (by unfold frF; omega))).tr (FrY_G fg)).tr (FrY_R P.1 (Or.inr (Or.inr (Or.inl rfl))))
  have f8 : (mR P.1 9 P.2).2.1 8 = W.2.1 8 := fy.2.1 8 (by omega)
  have f12 : (mR P.1 9 P.2).1 0 12 = nI n := (fy.1 12 (by unfold frF; omega)).trans w1
  have tr := Fs1 (sc := sc2) (d := d2 + 8) (M := M2) (W := mR P.1 9 P.2) (wl := wl) (n := n) hS2 (hld.r P.2) hll (fun s hs => by rw [f8]; exact (hq s hs).1) hn8 f12 n 0 (e_st1 [(0, .ref a2)] 1 (.int (nI 0))) (by omega) (by simp (maxDischargeDepth := 9) only [nl_sti, nl_str, nl_ci, nl_cr, nl_nil, ld_cons, ld_st, lr_some, li_some, lj_some, n2_nl, n2_ci, n2_cr, n2_nil, n2_sti, n2_str, tl_some, tl_none, cat_le, List.length_cons, List.length_nil, Option.bind_some, Option.bind_none, Option.map_some, cond_true, cond_false, Bool.and_true, Bool.true_and, reduceIte, Nat.reduceEqDiff, Nat.reduceAdd, Nat.reduceLeDiff, Nat.zero_add, Nat.zero_le, Nat.zero_ne_one, Nat.one_ne_zero, Nat.reduceLT, true_or, or_true, false_or, or_false, false_and, true_and, and_false, and_true, not_false_eq_true, not_true_eq_false, eq_self, mA_A, mA_I, mI_A, mI_I, b01, b10, b01n, b10n, i10, i01, im0, ei_max, ei_min, ei_obj, n30, n20]) (by simp only [nl_sti, nl_str, nl_ci, nl_cr, nl_nil, ld_cons, ld_st, lr_some, li_some, lj_some, n2_nl, n2_ci, n2_cr, n2_nil, n2_sti, n2_str, tl_some, tl_none, cat_le, List.length_cons, List.length_nil, Option.bind_some, Option.bind_none, Option.map_some, cond_true, cond_false, Bool.and_true, Bool.true_and, reduceIte, Nat.reduceEqDiff, Nat.reduceAdd, Nat.reduceLeDiff, Nat.zero_add, Nat.zero_le, Nat.zero_ne_one, Nat.one_ne_zero, Nat.reduceLT, true_or, or_true, false_or, or_false, false_and, true_and, and_false, and_true, not_false_eq_true, not_true_eq_false, eq_self, mA_A, mA_I, mI_A, mI_I, b01, b10, b01n, b10n, i10, i01, im0, ei_max, ei_min, ei_obj, n30, n20]) (by simp only [nl_sti, nl_str, nl_ci, nl_cr, nl_nil, ld_cons, ld_st, lr_some, li_some, lj_some, n2_nl, n2_ci, n2_cr, n2_nil, n2_sti, n2_str, tl_some, tl_none, cat_le, List.length_cons, List.length_nil, Option.bind_some, Option.bind_none, Option.map_some, cond_true, cond_false, Bool.and_true, Bool.true_and, reduceIte, Nat.reduceEqDiff, Nat.reduceAdd, Nat.reduceLeDiff, Nat.zero_add, Nat.zero_le, Nat.zero_ne_one, Nat.one_ne_zero, Nat.reduceLT, true_or, or_true, false_or, or_false, false_and, true_and, and_false, and_true, not_false_eq_true, not_true_eq_false, eq_self, mA_A, mA_I, mI_A, mI_I, b01, b10, b01n, b10n, i10, i01, im0, ei_max, ei_min, ei_obj, n30, n20])
  have hw : ∀ s x, s < 8 → x ∈ wl s → 0 < x.1 ∧ x.2.2.1 < 3 ∧ x.2.1 < 8 := fun s x hs hx => by
    obtain ⟨k, hk⟩ := List.getElem?_of_mem hx
    obtain ⟨y1, -, y2, -⟩ := hq s hs
    exact ⟨(y2 x hx).1, (y1.2.2 k x hk).2.2, (y1.2.2 k x hk).2.1⟩
  have key : (bdA (lnd 0 nws) wl n = true) = (cR ln0 nws = false) := propext (by
    rw [bdA_iff, fc_iff hca hU hw (fun k hk => (z1 k hk).2)]
    constructor
    · rintro ⟨s1, x, s2, y, u1, u2, u3, u4, u5⟩
      exact ⟨s1, x, s2, y, by omega, by omega, u3, u4, (bdB_iff (by omega)).mp u5⟩
    · rintro ⟨s1, x, s2, y, u1, u2, u3, u4, u5⟩
      have v1 : s1 < n := by
        rcases Nat.lt_or_ge s1 n with q | q
        · exact q
        · rw [(hq s1 u1).2.2.2 q] at u3
          cases u3
      have v2 : s2 < n := by
        rcases Nat.lt_or_ge s2 n with q | q
        · exact q
        · rw [(hq s2 u2).2.2.2 q] at u4
          cases u4
      exact ⟨s1, x, s2, y, v1, v2, u3, u4, (bdB_iff (by omega)).mpr u5⟩)
  have tr' : evp sc2 (d2 + 10) 276 20 (e_st1 [(0, .ref a2)] 1 (.int (nI 0))) [] (mk sh2 (gl M2 a2 15 (mR P.1 9 P.2))) = some (some (.int (if cR ln0 nws = true then 1 else 0)), mk sh2 (gl M2 a2 15 (mR P.1 9 P.2))) := by
    rw [tr]
    have : (List.range' 0 n).any (bdR (lnd 0 nws) wl n) = bdA (lnd 0 nws) wl n := rfl
    rw [this]
    simp only [key]
    cases cR ln0 nws <;> rfl
  refine ⟨if cR ln0 nws = true then 1 else 0, R', lt', ln', mR P.1 9 P.2, ?_, ?_, fy, q1⟩
  · rw [show nI (0 + 1) = (1 : Int32) from rfl] at q2
    rw [show nI 0 = (0 : Int32) from rfl] at z5
    have h44 : evp sc (d + 7) 44 0 [(0, .ref o), (1, .ref a)] [] (mk sh M) = some (some (.int (if cR ln0 nws = true then 1 else 0)), mk sh (gl (Om M x1 x2 lt' ln') ap 31 R')) := by
      rw [← q2]
      simp (maxDischargeDepth := 9) only [s44_0, s44_1, s44_4, s44_5, s44_8, s44_9, s44_12, s44_15, s44_18, s44_19, nl_sti, nl_str, nl_ci, nl_cr, nl_nil, ld_cons, ld_st, lr_some, li_some, lj_some, n2_nl, n2_ci, n2_cr, n2_nil, n2_sti, n2_str, tl_some, tl_none, cat_le, List.length_cons, List.length_nil, Option.bind_some, Option.bind_none, Option.map_some, cond_true, cond_false, Bool.and_true, Bool.true_and, reduceIte, Nat.reduceEqDiff, Nat.reduceAdd, Nat.reduceLeDiff, Nat.zero_add, Nat.zero_le, Nat.zero_ne_one, Nat.one_ne_zero, Nat.reduceLT, true_or, or_true, false_or, or_false, false_and, true_and, and_false, and_true, not_false_eq_true, not_true_eq_false, eq_self, mA_A, mA_I, mI_A, mI_I, b01, b10, b01n, b10n, i10, i01, im0, ei_max, ei_min, ei_obj, n30, n20, b011, b101, orn, nor, dneg, dnle, dne, dcl, cat0, cat1, cat2, cat3, cat4, gR0_0, pR0_0, gR0_1, pR0_1, gR0_2, pR0_2, gR0_3, pR0_3, gR0_4, pR0_4, gR0_5, pR0_5, gR0_6, pR0_6, gR0_7, gR0_8, gR0_9, gR0_10, gR0_11, gR0_12, gR0_13, gR0_14, gR0_15, gR0_16, cR0, cR5, cR17, cR19, cR26, cR28, cR30, hS, Ou_g0 ho, Ro_c hS, t1, tm, z5]
      simp (maxDischargeDepth := 9) only [s44_49, s44_50, s44_53, s44_54, s44_55, nl_sti, nl_str, nl_ci, nl_cr, nl_nil, ld_cons, ld_st, lr_some, li_some, lj_some, n2_nl, n2_ci, n2_cr, n2_nil, n2_sti, n2_str, tl_some, tl_none, cat_le, List.length_cons, List.length_nil, Option.bind_some, Option.bind_none, Option.map_some, cond_true, cond_false, Bool.and_true, Bool.true_and, reduceIte, Nat.reduceEqDiff, Nat.reduceAdd, Nat.reduceLeDiff, Nat.zero_add, Nat.zero_le, Nat.zero_ne_one, Nat.one_ne_zero, Nat.reduceLT, true_or, or_true, false_or, or_false, false_and, true_and, and_false, and_true, not_false_eq_true, not_true_eq_false, eq_self, mA_A, mA_I, mI_A, mI_I, b01, b10, b01n, b10n, i10, i01, im0, ei_max, ei_min, ei_obj, n30, n20, b011, b101, orn, nor, dneg, dnle, dne, dcl, cat0, cat1, cat2, cat3, cat4, tl, z2, z3, z4]
    cases hc : cR ln0 nws with
    | true =>
      rw [hc, if_pos rfl] at h44
      simp only [s159_0, s159_1, s159_4, s159_7, s159_10, s159_11, s159_14, s159_15, s159_18, s159_21, s159_24, s159_25, s159_28, s159_29, nl_sti, nl_str, nl_ci, nl_cr, nl_nil, ld_cons, ld_st, lr_some, li_some, lj_some, n2_nl, n2_ci, n2_cr, n2_nil, n2_sti, n2_str, tl_some, tl_none, cat_le, List.length_cons, List.length_nil, Option.bind_some, Option.bind_none, Option.map_some, cond_true, cond_false, Bool.and_true, Bool.true_and, reduceIte, Nat.reduceEqDiff, Nat.reduceAdd, Nat.reduceLeDiff, Nat.zero_add, Nat.zero_le, Nat.zero_ne_one, Nat.one_ne_zero, Nat.reduceLT, true_or, or_true, false_or, or_false, false_and, true_and, and_false, and_true, not_false_eq_true, not_true_eq_false, eq_self, mA_A, mA_I, mI_A, mI_I, b01, b10, b01n, b10n, i10, i01, im0, ei_max, ei_min, ei_obj, n30, n20, b011, b101, orn, nor, dneg, dnle, dne, dcl, cat0, cat1, cat2, cat3, cat4, Bu_g2 hb, Bu_g4 hb, Ou_c ho, r0, m0, hn0, h44]
    | false =>
      rw [hc, if_neg (by decide)] at h44
      simp only [s159_0, s159_1, s159_4, s159_7, s159_10, s159_11, s159_14, s159_15, s159_18, s159_21, s159_24, s159_25, s159_28, s159_29, nl_sti, nl_str, nl_ci, nl_cr, nl_nil, ld_cons, ld_st, lr_some, li_some, lj_some, n2_nl, n2_ci, n2_cr, n2_nil, n2_sti, n2_str, tl_some, tl_none, cat_le, List.length_cons, List.length_nil, Option.bind_some, Option.bind_none, Option.map_some, cond_true, cond_false, Bool.and_true, Bool.true_and, reduceIte, Nat.reduceEqDiff, Nat.reduceAdd, Nat.reduceLeDiff, Nat.zero_add, Nat.zero_le, Nat.zero_ne_one, Nat.one_ne_zero, Nat.reduceLT, true_or, or_true, false_or, or_false, false_and, true_and, and_false, and_true, not_false_eq_true, not_true_eq_false, eq_self, mA_A, mA_I, mI_A, mI_I, b01, b10, b01n, b10n, i10, i01, im0, ei_max, ei_min, ei_obj, n30, n20, b011, b101, orn, nor, dneg, dnle, dne, dcl, cat0, cat1, cat2, cat3, cat4, Bu_g2 hb, Bu_g4 hb, Ou_c ho, r0, m0, hn0, h44]
      rfl
  · rw [show nI 0 = (0 : Int32) from rfl] at tr'
    simp only [s276_0, s276_1, s276_2, s276_5, s276_6, s276_9, s276_12, s276_13, s276_14, s276_15, s276_18, s276_19, s276_21, s276_22, s276_25, s276_28, s276_29, s276_31, s276_32, s276_35, s276_38, s276_39, s276_41, s276_42, s276_45, s276_46, s276_47, s276_48, s276_49, s276_52, s276_53, s276_57, s276_58, s276_61, s276_62, s276_63, s276_64, s276_65, s276_68, s276_69, s276_70, s276_71, s276_72, s276_74, s276_77, s276_80, s276_81, s276_82, s276_85, s276_91, s276_97, s276_103, s276_106, s276_107, nl_sti, nl_str, nl_ci, nl_cr, nl_nil, ld_cons, ld_st, lr_some, li_some, lj_some, n2_nl, n2_ci, n2_cr, n2_nil, n2_sti, n2_str, tl_some, tl_none, cat_le, List.length_cons, List.length_nil, Option.bind_some, Option.bind_none, Option.map_some, cond_true, cond_false, Bool.and_true, Bool.true_and, reduceIte, Nat.reduceEqDiff, Nat.reduceAdd, Nat.reduceLeDiff, Nat.zero_add, Nat.zero_le, Nat.zero_ne_one, Nat.one_ne_zero, Nat.reduceLT, true_or, or_true, false_or, or_false, false_and, true_and, and_false, and_true, not_false_eq_true, not_true_eq_false, eq_self, mA_A, mA_I, mI_A, mI_I, b01, b10, b01n, b10n, i10, i01, im0, ei_max, ei_min, ei_obj, n30, n20, b011, b101, orn, nor, dneg, dnle, dne, dcl, cat0, cat1, cat2, cat3, cat4, gM0, pM0, gM12, pM12, cM, hS2, mI_I, w1, hn0, tf]
    exact tr'
end
