/-! FIRST COME: what is under way is marked, what waits is not -/
def mkE (e : Se) : Se := (zN e, zF e, zT e, zB e, zR e, zA e, zW e, -1)
def mkLn (Ln : Nat → List (Option Se)) : Nat → List (Option Se) := fun q => (Ln q).map (Option.map mkE)
def unl (p : Tg → Bool) : Tg → Bool := fun z => p (z.1, z.2.1, z.2.2.1, -1)
theorem cl_mk (p : Tg → Bool) (L : List (Option Se)) : cl p (L.map (Option.map mkE)) = cl (unl p) L := by
  unfold cl
  rw [List.map_map]
  congr 1
  apply List.map_congr_left
  intro x _
  cases x <;> rfl
theorem CN_mk (p : Tg → Bool) (Ln : Nat → List (Option Se)) : CN p (mkLn Ln) = CN (unl p) Ln := by
  unfold CN mkLn
  simp only [cl_mk]
theorem cl_ff (L : List (Option Se)) : cl (fun _ => false) L = 0 := by
  unfold cl
  induction L with
  | nil => rfl
  | cons x r ih =>
    rw [List.map_cons, List.sum_cons, ih]
    cases x with
    | none => rfl
    | some e => show (if false = true then ur e else 0) + 0 = 0; rfl
theorem CN_ff (Ln : Nat → List (Option Se)) : CN (fun _ => false) Ln = 0 := by
  unfold CN
  simp only [cl_ff]
theorem uL_mk (L : List (Option Se)) : uL (L.map (Option.map mkE)) = uL L := by
  unfold uL
  rw [List.map_map]
  congr 1
  apply List.map_congr_left
  intro x _
  cases x <;> rfl
theorem uS_mk (Ln : Nat → List (Option Se)) : uS (mkLn Ln) = uS Ln := by
  unfold uS mkLn
  simp only [uL_mk]
theorem cH_mk {A A' : Nat → Int32} {o : Nat} {x : Option Se} (ho : o % 8 = 0) (h : cH A o x) (hA : ∀ i, i < 8 → A' (o + i) = if (o + i) % 8 = 3 then -1 else A (o + i)) : cH A' o (x.map mkE) := by
  have e : ∀ i, i < 8 → ¬ i = 3 → A' (o + i) = A (o + i) := fun i hi q => by rw [hA i hi, if_neg (by omega)]
  cases x with
  | none => show A' (o + 5) = 0; rw [e 5 (by omega) (by decide)]; exact h
  | some z =>
    have e0 := e 0 (by omega) (by decide)
    rw [Nat.add_zero] at e0
    obtain ⟨h1, h2, h3, h4, h5⟩ := h
    refine ⟨e0.trans h1, (e 5 (by omega) (by decide)).trans h2, (e 6 (by omega) (by decide)).trans h3, (e 7 (by omega) (by decide)).trans h4, fun q => ?_⟩
    obtain ⟨g1, g2, g3, g4⟩ := h5 q
    refine ⟨(e 1 (by omega) (by decide)).trans g1, (e 2 (by omega) (by decide)).trans g2, ?_, (e 4 (by omega) (by decide)).trans g4⟩
    rw [hA 3 (by omega), if_pos (by omega)]
    rfl
theorem Lane_mk {A A' f : Nat → Int32} {q dl t : Nat} {L : List (Option Se)} (hdl : dl ≤ 3) (h : Lane A f q dl t L) (hA : ∀ i, i < 32 → A' (q * 32 + i) = if (q * 32 + i) % 8 = 3 then -1 else A (q * 32 + i)) : Lane A' f q dl t (L.map (Option.map mkE)) := by
  obtain ⟨h1, h2, h3, h4, h5⟩ := h
  unfold Lane
  rw [List.length_map]
  refine ⟨h1, h2, h3, fun j x hj => ?_, fun k hk hn => ?_⟩
  · rw [List.getElem?_map] at hj
    cases hy : L[j]? with
    | none => rw [hy] at hj; cases hj
    | some y =>
      rw [hy] at hj
      cases hj
      obtain ⟨g1, g2, g3⟩ := h4 j y hy
      have hm : (t - L.length + j) % (dl + 1) < dl + 1 := Nat.mod_lt _ (by omega)
      refine ⟨?_, cH_mk (by omega) g2 (fun i hi => ?_), fun e he => ?_⟩
      · cases y <;> exact g1
      · rw [Nat.add_assoc]
        exact hA _ (by omega)
      · cases y with
        | none => cases he
        | some e' =>
          cases he
          exact g3 e' rfl
  · rw [Nat.add_assoc, hA _ (by omega), if_neg (by omega), ← Nat.add_assoc]
    exact h5 k hk hn
theorem RI_mark {R R' : aM} {f : Nat → Int32} {n dl bal lv t B : Nat} {wl : Nat → List Sg} {al : List (Nat → Int32)} {lg : LgT} {Ln : Nat → List (Option Se)} (h : RI R f n dl bal lv t B wl al lg Ln) (hI : R'.1 = R.1) (hA : ∀ k, ¬ k = 18 → R'.2.1 k = R.2.1 k) (h18 : ∀ j, j < 448 → R'.2.1 18 j = if j % 8 = 3 then -1 else R.2.1 18 j) : RI R' f n dl bal lv t B wl al lg (mkLn Ln) := by
  obtain ⟨a1, a3, a4, a5, a6, a7, a8, a9, b1, b2, b3, b4⟩ := h
  have hdl : dl ≤ 3 := a1.1.2.2.2.1
  refine ⟨a1.cg (by rw [hI]) rfl rfl rfl, a3.cg (Nat.le_refl _) (fun k _ => by rw [hI]) (fun _ _ _ => rfl), a4.cg (fun k p q => hA k (by omega)) (fun _ _ _ => rfl) (fun _ _ _ => rfl), a5.cg (Nat.le_refl _) (fun k p q => hA k (by omega)) (fun _ _ _ _ _ => rfl), a6.cg (by rw [hI]) (fun k p q => hA k (by omega)) (fun _ _ => rfl) (fun _ _ => rfl), a7.cg (Nat.le_refl _) (fun k p q => hA k (by omega)) (fun _ _ _ => rfl), a8.cg (by rw [hI]) (hA 29 (by decide)) (fun _ _ => rfl), a9.cg (by rw [hI]) (hA 27 (by decide)) (fun _ _ => rfl), ⟨fun q hq => Lane_mk hdl (b1.1 q hq) (fun i hi => h18 _ (by omega)), fun p b hp hb ho => ?_⟩, fun q hq => ?_, ?_, fun N => ?_⟩
  · unfold mkLn
    rw [b1.2 p b hp hb ho]
    rfl
  · unfold mkLn
    rw [List.length_map]
    exact b2 q hq
  · rw [hI, uS_mk]
    exact b3
  · have := b4 N
    unfold LV at this ⊢
    rw [CN_mk, hI]
    exact this
section
variable {sc : aS} {d : Nat} {sh : List sE} {M : aM} {a : Nat}
theorem Mk_loop (hS : RowSh sh a) : ∀ (k i : Nat) (R : aM) (L : aL), i + 8 * k = 448 → e_n2 L → e_ld L 0 = some (.ref (a + 17)) → e_ld L 1 = some (.int (nI i)) → ∃ R', evp sc d 13 2 L [] (mk sh (gl M a 31 R)) = some (none, mk sh (gl M a 31 R')) ∧ R'.1 = R.1 ∧ (∀ k, ¬ k = 18 → R'.2.1 k = R.2.1 k) ∧ ∀ j, j < 448 → R'.2.1 18 j = if i ≤ j ∧ j % 8 = 3 then -1 else R.2.1 18 j
  | 0, i, R, L, hi, hN, h0, h1 => by
    have c1 : ((448 : Int32) ≤ nI i) = True := eq_true (nI_le (a := 448) (by omega) (by omega))
    refine ⟨R, ?_, rfl, fun _ _ => rfl, fun j hj => by rw [if_neg (by omega)]⟩
    rw [s13_2]
    simp only [s13_0, s13_1, s13_3, s13_6, s13_9, s13_10, s13_13, s13_14, s13_15, s13_16, s13_17, s13_18, s13_21, s13_24, nl_sti, nl_str, nl_ci, nl_cr, nl_nil, ld_cons, ld_st, lr_some, li_some, lj_some, n2_nl, n2_ci, n2_cr, n2_nil, n2_sti, n2_str, tl_some, tl_none, cat_le, List.length_cons, List.length_nil, Option.bind_some, Option.bind_none, Option.map_some, cond_true, cond_false, Bool.and_true, Bool.true_and, reduceIte, Nat.reduceEqDiff, Nat.reduceAdd, Nat.reduceLeDiff, Nat.zero_add, Nat.zero_le, Nat.zero_ne_one, Nat.one_ne_zero, Nat.reduceLT, true_or, or_true, false_or, or_false, false_and, true_and, and_false, and_true, not_false_eq_true, not_true_eq_false, eq_self, mA_A, mA_I, mI_A, mI_I, b01, b10, b01n, b10n, i10, i01, im0, ei_max, ei_min, ei_obj, n30, n20, b011, b101, orn, nor, dneg, dnle, dne, dcl, cat0, cat1, cat2, cat3, cat4, hN, h0, h1, c1]
  | k + 1, i, R, L, hi, hN, h0, h1 => by
    have c1 : ((448 : Int32) ≤ nI i) = False := eq_false (nI_ge (b := 448) (by omega) (by omega))
    have i1 := in_nI (show i + 3 < 448 by omega) (by decide : 448 < 2 ^ 31)
    have i2 := cl_nI (show i + 3 < 448 by omega) (by decide : 448 < 2 ^ 31)
    have i3 : (445 ≤ i) = False := eq_false (by omega)
    have i4 : (nI (i + 3) < 0) = False := eq_false (nI_pos (by omega))
    obtain ⟨R', t, l1, l2, l3⟩ := Mk_loop hS k (i + 8) (mA R 18 (i + 3) (-1)) (e_st1 L 1 (.int (nI (i + 8)))) (by omega) (by simp (maxDischargeDepth := 9) only [nl_sti, nl_str, nl_ci, nl_cr, nl_nil, ld_cons, ld_st, lr_some, li_some, lj_some, n2_nl, n2_ci, n2_cr, n2_nil, n2_sti, n2_str, tl_some, tl_none, cat_le, List.length_cons, List.length_nil, Option.bind_some, Option.bind_none, Option.map_some, cond_true, cond_false, Bool.and_true, Bool.true_and, reduceIte, Nat.reduceEqDiff, Nat.reduceAdd, Nat.reduceLeDiff, Nat.zero_add, Nat.zero_le, Nat.zero_ne_one, Nat.one_ne_zero, Nat.reduceLT, true_or, or_true, false_or, or_false, false_and, true_and, and_false, and_true, not_false_eq_true, not_true_eq_false, eq_self, mA_A, mA_I, mI_A, mI_I, b01, b10, b01n, b10n, i10, i01, im0, ei_max, ei_min, ei_obj, n30, n20, hN]) (by simp only [nl_sti, nl_str, nl_ci, nl_cr, nl_nil, ld_cons, ld_st, lr_some, li_some, lj_some, n2_nl, n2_ci, n2_cr, n2_nil, n2_sti, n2_str, tl_some, tl_none, cat_le, List.length_cons, List.length_nil, Option.bind_some, Option.bind_none, Option.map_some, cond_true, cond_false, Bool.and_true, Bool.true_and, reduceIte, Nat.reduceEqDiff, Nat.reduceAdd, Nat.reduceLeDiff, Nat.zero_add, Nat.zero_le, Nat.zero_ne_one, Nat.one_ne_zero, Nat.reduceLT, true_or, or_true, false_or, or_false, false_and, true_and, and_false, and_true, not_false_eq_true, not_true_eq_false, eq_self, mA_A, mA_I, mI_A, mI_I, b01, b10, b01n, b10n, i10, i01, im0, ei_max, ei_min, ei_obj, n30, n20, h0]) (by simp only [nl_sti, nl_str, nl_ci, nl_cr, nl_nil, ld_cons, ld_st, lr_some, li_some, lj_some, n2_nl, n2_ci, n2_cr, n2_nil, n2_sti, n2_str, tl_some, tl_none, cat_le, List.length_cons, List.length_nil, Option.bind_some, Option.bind_none, Option.map_some, cond_true, cond_false, Bool.and_true, Bool.true_and, reduceIte, Nat.reduceEqDiff, Nat.reduceAdd, Nat.reduceLeDiff, Nat.zero_add, Nat.zero_le, Nat.zero_ne_one, Nat.one_ne_zero, Nat.reduceLT, true_or, or_true, false_or, or_false, false_and, true_and, and_false, and_true, not_false_eq_true, not_true_eq_false, eq_self, mA_A, mA_I, mI_A, mI_I, b01, b10, b01n, b10n, i10, i01, im0, ei_max, ei_min, ei_obj, n30, n20])
    refine ⟨R', ?_, l1, fun k hk => (l2 k hk).trans (mA_o hk), fun j hj => ?_⟩
    · rw [← t, s13_2]
      simp only [s13_0, s13_1, s13_3, s13_6, s13_9, s13_10, s13_13, s13_14, s13_15, s13_16, s13_17, s13_18, s13_21, s13_24, nl_sti, nl_str, nl_ci, nl_cr, nl_nil, ld_cons, ld_st, lr_some, li_some, lj_some, n2_nl, n2_ci, n2_cr, n2_nil, n2_sti, n2_str, tl_some, tl_none, cat_le, List.length_cons, List.length_nil, Option.bind_some, Option.bind_none, Option.map_some, cond_true, cond_false, Bool.and_true, Bool.true_and, reduceIte, Nat.reduceEqDiff, Nat.reduceAdd, Nat.reduceLeDiff, Nat.zero_add, Nat.zero_le, Nat.zero_ne_one, Nat.one_ne_zero, Nat.reduceLT, true_or, or_true, false_or, or_false, false_and, true_and, and_false, and_true, not_false_eq_true, not_true_eq_false, eq_self, mA_A, mA_I, mI_A, mI_I, b01, b10, b01n, b10n, i10, i01, im0, ei_max, ei_min, ei_obj, n30, n20, b011, b101, orn, nor, dneg, dnle, dne, dcl, cat0, cat1, cat2, cat3, cat4, gR17_0, cR17, aR18, wR18, cR0, cR5, cR19, cR26, cR28, cR30, nI_add, nI_1, nI_mul, nm2, nm3, nm4, nm5, nm6, nm8, nm16, nm25, nm30, nm32, nm80, na2, na3, na4, na5, na6, na7, na8, na16, na0, hS, hN, h0, h1, c1, i1, i2, i3, i4]
    · rw [l3 j hj, mA_At]
      have hm : i % 8 = 0 := by omega
      by_cases q : j = i + 3
      · rw [if_pos q, if_neg (by omega), if_pos (by omega)]
      · rw [if_neg q]
        by_cases z : i + 8 ≤ j ∧ j % 8 = 3
        · rw [if_pos z, if_pos (by omega)]
        · rw [if_neg z, if_neg (by omega)]
theorem H_markAll (hS : RowSh sh a) {R : aM} : ∃ R', evp sc d 13 0 [(0, .ref (a + 17))] [] (mk sh (gl M a 31 R)) = some (none, mk sh (gl M a 31 R')) ∧ R'.1 = R.1 ∧ (∀ k, ¬ k = 18 → R'.2.1 k = R.2.1 k) ∧ ∀ j, j < 448 → R'.2.1 18 j = if j % 8 = 3 then -1 else R.2.1 18 j := by
  obtain ⟨R', t, l1, l2, l3⟩ := Mk_loop (sc := sc) (d := d) (M := M) hS 56 0 R (e_st1 [(0, .ref (a + 17))] 1 (.int (nI 0))) (by omega) (by simp (maxDischargeDepth := 9) only [nl_sti, nl_str, nl_ci, nl_cr, nl_nil, ld_cons, ld_st, lr_some, li_some, lj_some, n2_nl, n2_ci, n2_cr, n2_nil, n2_sti, n2_str, tl_some, tl_none, cat_le, List.length_cons, List.length_nil, Option.bind_some, Option.bind_none, Option.map_some, cond_true, cond_false, Bool.and_true, Bool.true_and, reduceIte, Nat.reduceEqDiff, Nat.reduceAdd, Nat.reduceLeDiff, Nat.zero_add, Nat.zero_le, Nat.zero_ne_one, Nat.one_ne_zero, Nat.reduceLT, true_or, or_true, false_or, or_false, false_and, true_and, and_false, and_true, not_false_eq_true, not_true_eq_false, eq_self, mA_A, mA_I, mI_A, mI_I, b01, b10, b01n, b10n, i10, i01, im0, ei_max, ei_min, ei_obj, n30, n20]) (by simp only [nl_sti, nl_str, nl_ci, nl_cr, nl_nil, ld_cons, ld_st, lr_some, li_some, lj_some, n2_nl, n2_ci, n2_cr, n2_nil, n2_sti, n2_str, tl_some, tl_none, cat_le, List.length_cons, List.length_nil, Option.bind_some, Option.bind_none, Option.map_some, cond_true, cond_false, Bool.and_true, Bool.true_and, reduceIte, Nat.reduceEqDiff, Nat.reduceAdd, Nat.reduceLeDiff, Nat.zero_add, Nat.zero_le, Nat.zero_ne_one, Nat.one_ne_zero, Nat.reduceLT, true_or, or_true, false_or, or_false, false_and, true_and, and_false, and_true, not_false_eq_true, not_true_eq_false, eq_self, mA_A, mA_I, mI_A, mI_I, b01, b10, b01n, b10n, i10, i01, im0, ei_max, ei_min, ei_obj, n30, n20]) (by simp only [nl_sti, nl_str, nl_ci, nl_cr, nl_nil, ld_cons, ld_st, lr_some, li_some, lj_some, n2_nl, n2_ci, n2_cr, n2_nil, n2_sti, n2_str, tl_some, tl_none, cat_le, List.length_cons, List.length_nil, Option.bind_some, Option.bind_none, Option.map_some, cond_true, cond_false, Bool.and_true, Bool.true_and, reduceIte, Nat.reduceEqDiff, Nat.reduceAdd, Nat.reduceLeDiff, Nat.zero_add, Nat.zero_le, Nat.zero_ne_one, Nat.one_ne_zero, Nat.reduceLT, true_or, or_true, false_or, or_false, false_and, true_and, and_false, and_true, not_false_eq_true, not_true_eq_false, eq_self, mA_A, mA_I, mI_A, mI_I, b01, b10, b01n, b10n, i10, i01, im0, ei_max, ei_min, ei_obj, n30, n20])
  rw [show nI 0 = (0 : Int32) from rfl] at t
  refine ⟨R', ?_, l1, l2, fun j hj => ?_⟩
  · simp only [s13_0, s13_1, s13_3, s13_6, s13_9, s13_10, s13_13, s13_14, s13_15, s13_16, s13_17, s13_18, s13_21, s13_24, nl_sti, nl_str, nl_ci, nl_cr, nl_nil, ld_cons, ld_st, lr_some, li_some, lj_some, n2_nl, n2_ci, n2_cr, n2_nil, n2_sti, n2_str, tl_some, tl_none, cat_le, List.length_cons, List.length_nil, Option.bind_some, Option.bind_none, Option.map_some, cond_true, cond_false, Bool.and_true, Bool.true_and, reduceIte, Nat.reduceEqDiff, Nat.reduceAdd, Nat.reduceLeDiff, Nat.zero_add, Nat.zero_le, Nat.zero_ne_one, Nat.one_ne_zero, Nat.reduceLT, true_or, or_true, false_or, or_false, false_and, true_and, and_false, and_true, not_false_eq_true, not_true_eq_false, eq_self, mA_A, mA_I, mI_A, mI_I, b01, b10, b01n, b10n, i10, i01, im0, ei_max, ei_min, ei_obj, n30, n20, b011, b101, orn, nor, dneg, dnle, dne, dcl, cat0, cat1, cat2, cat3, cat4, t]
  · rw [l3 j hj]
    simp only [Nat.zero_le, true_and]
end
