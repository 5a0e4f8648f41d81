/-! A SCRIPT as a text: the reference's steps -/
theorem wr_o : ∀ (l : List Int32) (g : Nat → Int32) (b j : Nat), j < b → wr g b l j = g j
  | [], _, _, _, _ => rfl
  | v :: l, g, b, j, h => by
    show wr (up g b v) (b + 1) l j = g j
    rw [wr_o l _ (b + 1) j (by omega), up_o (by omega)]
theorem snP_end {T : List Nat} {kd nu : Nat} : ∀ (k i : Nat) (r : List Nat), nu < i → snP T kd nu k i r = .ok (List.replicate k (-1), r)
  | 0, i, r, h => rfl
  | k + 1, i, r, h => by
    rw [snP, if_neg (by omega), snP_end k (i + 1) r (by omega)]
    rfl
theorem cmP_D {r : List Nat} (h : isD r = true) : cmP r = none := by
  unfold cmP
  rw [sk_D h]
  cases r with
  | nil => rfl
  | cons x r2 =>
    have := isD_c.mp h
    exact if_neg (by omega)
def RSn (E : aR) (sh : List sE) (M W : aM) (a t : Nat) (T : List Nat) (G0 g : Nat → Int32) (b : Nat) (q : Except Nat (List Int32 × List Nat)) : Prop := match q with
  | .error p => (∃ g' p', (∀ i, i < 320 → g' i = G0 i) ∧ E = some (none, mk sh (gl M a 15 (qS (mR W 6 g') p' (nI p) t)))) ∨ ∃ g' r', (∀ i, i < 320 → g' i = G0 i) ∧ Sx T r' ∧ isD r' = true ∧ po T r' = p ∧ E = some (none, mk sh (gl M a 15 (qS (mR W 6 g') (po T r') (-1) t)))
  | .ok q => E = some (none, mk sh (gl M a 15 (qS (mR W 6 (wr g b q.1)) (po T q.2) (-1) t)))
section
variable {sc : aS} {d : Nat} {sh : List sE} {M W X : aM} {a : Nat} {T r : List Nat} {v u f : Int32} {c t p : Nat} {h : aH} {g : Nat → Int32}
theorem M_w6q (hS : ModSh sh a) {j : Nat} (hj : j < 400) : e_is (mk sh (gl M a 15 (qS (mR X 6 g) p f t))) (a + 6) (nI j) u = some (mk sh (gl M a 15 (qS (mR X 6 (up g j u)) p f t))) := by
  rw [wM6 hS, cl_nI hj (by decide), if_pos (fun z => z.elim (nI_pos (by omega)) (by omega)), ← mA_mR]
  rfl
theorem M_comma_f (hS : ModSh sh a) (hf : ¬ f = -1) : evp sc d 197 0 [(0, .ref a)] [] (mk sh (gl M a 15 (qS W p f t))) = some (none, mk sh (gl M a 15 (qS W p f t))) := by
  simp (maxDischargeDepth := 9) only [s197_0, s197_1, s197_4, s197_5, s197_8, s197_9, s197_10, s197_13, s197_15, s197_18, s197_19, s197_19r, s197_20, s197_23, s197_24, s197_25, s197_28, s197_31, s197_32, s197_35, nl_sti, nl_str, nl_ci, nl_cr, nl_nil, ld_cons, ld_st, lr_some, li_some, lj_some, n2_nl, n2_ci, n2_cr, n2_nil, n2_sti, n2_str, tl_some, tl_none, cat_le, List.length_cons, List.length_nil, Option.bind_some, Option.bind_none, Option.map_some, cond_true, cond_false, Bool.and_true, Bool.true_and, reduceIte, Nat.reduceEqDiff, Nat.reduceAdd, Nat.reduceLeDiff, Nat.zero_add, Nat.zero_le, Nat.zero_ne_one, Nat.one_ne_zero, Nat.reduceLT, true_or, or_true, false_or, or_false, false_and, true_and, and_false, and_true, not_false_eq_true, not_true_eq_false, eq_self, mA_A, mA_I, mI_A, mI_I, b01, b10, b01n, b10n, i10, i01, im0, ei_max, ei_min, ei_obj, n30, n20, b011, b101, orn, nor, dneg, dnle, dne, dcl, cat0, cat1, cat2, cat3, cat4, gM4, pM4, cM, hS, qS_4, hf]
theorem M_comma_y (hS : ModSh sh a) (hT : RTp W T) {r1 : List Nat} (hr : Sx T r) (h : cmP r = some r1) : evp sc (d + 2) 197 0 [(0, .ref a)] [] (mk sh (gl M a 15 (qS W (po T r) (-1) t))) = some (none, mk sh (gl M a 15 (qS W (po T r1) (-1) t))) := by
  have tl := M_look (sc := sc) (d := d) (M := M) (f := -1) (t := t) hS hT r hr
  have hrs := hr.skp
  unfold cmP at h
  cases e : sk r with
  | nil => rw [e] at h; cases h
  | cons x r2 =>
    rw [e] at h tl hrs
    simp only at h
    split at h
    · rename_i q
      have e2 := Option.some.inj h
      subst e2
      have t44 : (nI x = 44) = True := eq_true (by rw [q]; rfl)
      simp (maxDischargeDepth := 9) only [s197_0, s197_1, s197_4, s197_5, s197_8, s197_9, s197_10, s197_13, s197_15, s197_18, s197_19, s197_19r, s197_20, s197_23, s197_24, s197_25, s197_28, s197_31, s197_32, s197_35, nl_sti, nl_str, nl_ci, nl_cr, nl_nil, ld_cons, ld_st, lr_some, li_some, lj_some, n2_nl, n2_ci, n2_cr, n2_nil, n2_sti, n2_str, tl_some, tl_none, cat_le, List.length_cons, List.length_nil, Option.bind_some, Option.bind_none, Option.map_some, cond_true, cond_false, Bool.and_true, Bool.true_and, reduceIte, Nat.reduceEqDiff, Nat.reduceAdd, Nat.reduceLeDiff, Nat.zero_add, Nat.zero_le, Nat.zero_ne_one, Nat.one_ne_zero, Nat.reduceLT, true_or, or_true, false_or, or_false, false_and, true_and, and_false, and_true, not_false_eq_true, not_true_eq_false, eq_self, mA_A, mA_I, mI_A, mI_I, b01, b10, b01n, b10n, i10, i01, im0, ei_max, ei_min, ei_obj, n30, n20, b011, b101, orn, nor, dneg, dnle, dne, dcl, cat0, cat1, cat2, cat3, cat4, gM3, pM3, gM4, pM4, cM, cM hS, hS, qS_3, qS_4, qS_w3, tl, hdm, t44, nI_1, hrs.po1]
    · cases h
theorem M_comma_n (hS : ModSh sh a) (hT : RTp W T) (hr : Sx T r) (h : cmP r = none) : evp sc (d + 2) 197 0 [(0, .ref a)] [] (mk sh (gl M a 15 (qS W (po T r) (-1) t))) = some (none, mk sh (gl M a 15 (qS W (po T (sk r)) (nI (po T (sk r))) t))) := by
  have tl := M_look (sc := sc) (d := d) (M := M) (f := -1) (t := t) hS hT r hr
  have tf := M_fails (sc := sc) (d := d + 1) (M := M) (W := W) (f := -1) (t := t) (p := po T (sk r)) hS
  rw [if_pos rfl] at tf
  have hrs := hr.skp
  unfold cmP at h
  cases e : sk r with
  | nil =>
    rw [e] at tl tf
    have z : ((-1 : Int32) = 44) = False := by decide
    simp (maxDischargeDepth := 9) only [s197_0, s197_1, s197_4, s197_5, s197_8, s197_9, s197_10, s197_13, s197_15, s197_18, s197_19, s197_19r, s197_20, s197_23, s197_24, s197_25, s197_28, s197_31, s197_32, s197_35, nl_sti, nl_str, nl_ci, nl_cr, nl_nil, ld_cons, ld_st, lr_some, li_some, lj_some, n2_nl, n2_ci, n2_cr, n2_nil, n2_sti, n2_str, tl_some, tl_none, cat_le, List.length_cons, List.length_nil, Option.bind_some, Option.bind_none, Option.map_some, cond_true, cond_false, Bool.and_true, Bool.true_and, reduceIte, Nat.reduceEqDiff, Nat.reduceAdd, Nat.reduceLeDiff, Nat.zero_add, Nat.zero_le, Nat.zero_ne_one, Nat.one_ne_zero, Nat.reduceLT, true_or, or_true, false_or, or_false, false_and, true_and, and_false, and_true, not_false_eq_true, not_true_eq_false, eq_self, mA_A, mA_I, mI_A, mI_I, b01, b10, b01n, b10n, i10, i01, im0, ei_max, ei_min, ei_obj, n30, n20, b011, b101, orn, nor, dneg, dnle, dne, dcl, cat0, cat1, cat2, cat3, cat4, gM4, pM4, cM, cM hS, hS, qS_4, tl, hdm, z, tf]
  | cons x r2 =>
    rw [e] at h tl tf hrs
    simp only at h
    split at h
    · cases h
    · rename_i q
      obtain ⟨-, hx0, hx⟩ := hT.2.2 _ _ hrs.get
      have t44 : (nI x = 44) = False := eq_false (fun z => q ((nI_eq (b := 44) (by omega) (by decide)).mp z))
      simp (maxDischargeDepth := 9) only [s197_0, s197_1, s197_4, s197_5, s197_8, s197_9, s197_10, s197_13, s197_15, s197_18, s197_19, s197_19r, s197_20, s197_23, s197_24, s197_25, s197_28, s197_31, s197_32, s197_35, nl_sti, nl_str, nl_ci, nl_cr, nl_nil, ld_cons, ld_st, lr_some, li_some, lj_some, n2_nl, n2_ci, n2_cr, n2_nil, n2_sti, n2_str, tl_some, tl_none, cat_le, List.length_cons, List.length_nil, Option.bind_some, Option.bind_none, Option.map_some, cond_true, cond_false, Bool.and_true, Bool.true_and, reduceIte, Nat.reduceEqDiff, Nat.reduceAdd, Nat.reduceLeDiff, Nat.zero_add, Nat.zero_le, Nat.zero_ne_one, Nat.one_ne_zero, Nat.reduceLT, true_or, or_true, false_or, or_false, false_and, true_and, and_false, and_true, not_false_eq_true, not_true_eq_false, eq_self, mA_A, mA_I, mI_A, mI_I, b01, b10, b01n, b10n, i10, i01, im0, ei_max, ei_min, ei_obj, n30, n20, b011, b101, orn, nor, dneg, dnle, dne, dcl, cat0, cat1, cat2, cat3, cat4, gM4, pM4, cM, cM hS, hS, qS_4, tl, hdm, t44, tf]
theorem M_num_no (hS : ModSh sh a) (hT : RTp W T) (hr : Sx T r) (hf : ¬ f = -1) : evp sc (d + 3) 190 0 [(0, .ref a), (1, .int 2)] [] (mk sh (gl M a 15 (qS W (po T r) f t))) = some (some (.int 0), mk sh (gl M a 15 (qS W (po T (sk r)) f t))) := by
  have tg := M_digit_no (sc := sc) (d := d) (M := M) (t := t) hS hT hr hf
  have c1 : ((2 : Int32) ≤ 1) = False := by decide
  simp (maxDischargeDepth := 9) only [s190_0, s190_1, s190_4, s190_5, s190_6, s190_7, s190_8, s190_9, s190_12, s190_13, s190_16, s190_17, s190_43, s190_44, s190_47, s190_48, s190_62, s190_63, nl_sti, nl_str, nl_ci, nl_cr, nl_nil, ld_cons, ld_st, lr_some, li_some, lj_some, n2_nl, n2_ci, n2_cr, n2_nil, n2_sti, n2_str, tl_some, tl_none, cat_le, List.length_cons, List.length_nil, Option.bind_some, Option.bind_none, Option.map_some, cond_true, cond_false, Bool.and_true, Bool.true_and, reduceIte, Nat.reduceEqDiff, Nat.reduceAdd, Nat.reduceLeDiff, Nat.zero_add, Nat.zero_le, Nat.zero_ne_one, Nat.one_ne_zero, Nat.reduceLT, true_or, or_true, false_or, or_false, false_and, true_and, and_false, and_true, not_false_eq_true, not_true_eq_false, eq_self, mA_A, mA_I, mI_A, mI_I, b01, b10, b01n, b10n, i10, i01, im0, ei_max, ei_min, ei_obj, n30, n20, b011, b101, orn, nor, dneg, dnle, dne, dcl, cat0, cat1, cat2, cat3, cat4, gM4, pM4, cM, cM hS, hS, qS_4, tg, nl_cj, c1, hf]
/-- behind the comma, with a fault already -/
theorem M_99f (hS : ModSh sh a) (hT : RTp W T) {R0 kd nu j : Nat} {G0 : Nat → Int32} (hg : ∀ i, i < 320 → g i = G0 i) (hR0 : 320 ≤ R0) (hR : R0 + 5 ≤ 400) (hj : j < 4) (hkd : kd < 7) (hnu : nu ≤ 4) (hr : Sx T r) (hf : ¬ f = -1) {L : aL} (hN : e_n2 L) (h0 : e_ld L 0 = some (.ref a)) (h2 : e_ld L 2 = some (.int (nI R0))) (h3 : e_ld L 3 = some (.int (nI kd))) (h4 : e_ld L 4 = some (.int (nI nu))) (h5 : e_ld L 5 = some (.int (nI j))) : ∃ g' r', (∀ i, i < 320 → g' i = G0 i) ∧ Sx T r' ∧ evp sc (d + 4) 198 99 L [] (mk sh (gl M a 15 (qS (mR W 6 g) (po T r) f t))) = evp sc (d + 4) 198 77 (e_st1 L 5 (.int (nI (j + 1)))) [] (mk sh (gl M a 15 (qS (mR W 6 g') (po T r') f t))) := by
  have hT' : RTp (mR W 6 g) T := hT.mR (by decide)
  have e1 : (nI R0 + 1 + nI j : Int32) = nI (R0 + 1 + j) := by rw [nI_1, nI_add]
  have w1 := fun (u : Int32) (p : Nat) => M_w6q (M := M) (X := W) (p := p) (f := f) (t := t) (g := g) (u := u) hS (show R0 + 1 + j < 400 by omega)
  by_cases q1 : j < nu
  · have c1 : (nI j < nI nu) = True := eq_true (by rw [nI_ltE (by omega) (by omega)]; exact q1)
    by_cases qk : kd = 1
    · have tk : (nI kd = 1) = True := eq_true (by rw [qk]; rfl)
      have tn := M_num_no (sc := sc) (d := d) (M := M) (t := t) hS hT' hr hf
      refine ⟨up g (R0 + 1 + j) 0, sk r, fun i hi => by rw [up_o (by omega)]; exact hg i hi, hr.skp, ?_⟩
      rw [s198_99]
      simp (maxDischargeDepth := 9) only [s198_100, s198_103, s198_104, s198_105, s198_106, s198_108, s198_109, s198_111, s198_113, s198_120, s198_121, s198_122, s198_125, s198_126, s198_127, s198_130, s198_137, s198_138, s198_141, nl_sti, nl_str, nl_ci, nl_cr, nl_nil, ld_cons, ld_st, lr_some, li_some, lj_some, n2_nl, n2_ci, n2_cr, n2_nil, n2_sti, n2_str, tl_some, tl_none, cat_le, List.length_cons, List.length_nil, Option.bind_some, Option.bind_none, Option.map_some, cond_true, cond_false, Bool.and_true, Bool.true_and, reduceIte, Nat.reduceEqDiff, Nat.reduceAdd, Nat.reduceLeDiff, Nat.zero_add, Nat.zero_le, Nat.zero_ne_one, Nat.one_ne_zero, Nat.reduceLT, true_or, or_true, false_or, or_false, false_and, true_and, and_false, and_true, not_false_eq_true, not_true_eq_false, eq_self, mA_A, mA_I, mI_A, mI_I, b01, b10, b01n, b10n, i10, i01, im0, ei_max, ei_min, ei_obj, n30, n20, b011, b101, orn, nor, dneg, dnle, dne, dcl, cat0, cat1, cat2, cat3, cat4, gM9, cM, cM hS, hS, hN, h0, h2, h3, h4, h5, c1, tk, tn, e1, w1, nI_1, nI_add]
    · have tk : (nI kd = 1) = False := eq_false (fun z => qk ((nI_eq (b := 1) (by omega) (by decide)).mp z))
      have tn := M_digit_no (sc := sc) (d := d + 1) (M := M) (t := t) hS hT' hr hf
      refine ⟨up g (R0 + 1 + j) 0, sk r, fun i hi => by rw [up_o (by omega)]; exact hg i hi, hr.skp, ?_⟩
      rw [s198_99]
      simp (maxDischargeDepth := 9) only [s198_100, s198_103, s198_104, s198_105, s198_106, s198_108, s198_109, s198_111, s198_113, s198_120, s198_121, s198_122, s198_133, s198_134, s198_137, s198_138, s198_141, nl_sti, nl_str, nl_ci, nl_cr, nl_nil, ld_cons, ld_st, lr_some, li_some, lj_some, n2_nl, n2_ci, n2_cr, n2_nil, n2_sti, n2_str, tl_some, tl_none, cat_le, List.length_cons, List.length_nil, Option.bind_some, Option.bind_none, Option.map_some, cond_true, cond_false, Bool.and_true, Bool.true_and, reduceIte, Nat.reduceEqDiff, Nat.reduceAdd, Nat.reduceLeDiff, Nat.zero_add, Nat.zero_le, Nat.zero_ne_one, Nat.one_ne_zero, Nat.reduceLT, true_or, or_true, false_or, or_false, false_and, true_and, and_false, and_true, not_false_eq_true, not_true_eq_false, eq_self, mA_A, mA_I, mI_A, mI_I, b01, b10, b01n, b10n, i10, i01, im0, ei_max, ei_min, ei_obj, n30, n20, b011, b101, orn, nor, dneg, dnle, dne, dcl, cat0, cat1, cat2, cat3, cat4, gM9, cM, cM hS, hS, hN, h0, h2, h3, h4, h5, c1, tk, tn, e1, w1, nI_1, nI_add]
  · have c1 : (nI j < nI nu) = False := eq_false (by rw [nI_ltE (by omega) (by omega)]; exact q1)
    refine ⟨up g (R0 + 1 + j) (-1), r, fun i hi => by rw [up_o (by omega)]; exact hg i hi, hr, ?_⟩
    rw [s198_99]
    simp (maxDischargeDepth := 9) only [s198_100, s198_103, s198_104, s198_105, s198_106, s198_108, s198_109, s198_111, s198_113, s198_116, s198_117, s198_137, s198_138, s198_141, nl_sti, nl_str, nl_ci, nl_cr, nl_nil, ld_cons, ld_st, lr_some, li_some, lj_some, n2_nl, n2_ci, n2_cr, n2_nil, n2_sti, n2_str, tl_some, tl_none, cat_le, List.length_cons, List.length_nil, Option.bind_some, Option.bind_none, Option.map_some, cond_true, cond_false, Bool.and_true, Bool.true_and, reduceIte, Nat.reduceEqDiff, Nat.reduceAdd, Nat.reduceLeDiff, Nat.zero_add, Nat.zero_le, Nat.zero_ne_one, Nat.one_ne_zero, Nat.reduceLT, true_or, or_true, false_or, or_false, false_and, true_and, and_false, and_true, not_false_eq_true, not_true_eq_false, eq_self, mA_A, mA_I, mI_A, mI_I, b01, b10, b01n, b10n, i10, i01, im0, ei_max, ei_min, ei_obj, n30, n20, b011, b101, orn, nor, dneg, dnle, dne, dcl, cat0, cat1, cat2, cat3, cat4, gM9, cM, cM hS, hS, hN, h0, h2, h3, h4, h5, c1, e1, w1, nI_1, nI_add]
theorem M_sn_f (hS : ModSh sh a) (hT : RTp W T) {R0 kd nu : Nat} {G0 : Nat → Int32} (hR0 : 320 ≤ R0) (hR : R0 + 5 ≤ 400) (hkd : kd < 7) (hnu : nu ≤ 4) (hf : ¬ f = -1) : ∀ (k j : Nat) (g : Nat → Int32) (r : List Nat) (L : aL), j + k = 4 → Sx T r → (∀ i, i < 320 → g i = G0 i) → e_n2 L → e_ld L 0 = some (.ref a) → e_ld L 2 = some (.int (nI R0)) → e_ld L 3 = some (.int (nI kd)) → e_ld L 4 = some (.int (nI nu)) → e_ld L 5 = some (.int (nI j)) → ∃ g' p', (∀ i, i < 320 → g' i = G0 i) ∧ evp sc (d + 4) 198 77 L [] (mk sh (gl M a 15 (qS (mR W 6 g) (po T r) f t))) = some (none, mk sh (gl M a 15 (qS (mR W 6 g') p' f t)))
  | 0, j, g, r, L, hj, hr, hg, hN, h0, h2, h3, h4, h5 => by
    have c1 : ((4 : Int32) ≤ nI j) = True := eq_true (nI_le (a := 4) (by omega) (by omega))
    refine ⟨g, po T r, hg, ?_⟩
    rw [s198_77]
    simp (maxDischargeDepth := 9) only [s198_79, s198_80, s198_144, nl_sti, nl_str, nl_ci, nl_cr, nl_nil, ld_cons, ld_st, lr_some, li_some, lj_some, n2_nl, n2_ci, n2_cr, n2_nil, n2_sti, n2_str, tl_some, tl_none, cat_le, List.length_cons, List.length_nil, Option.bind_some, Option.bind_none, Option.map_some, cond_true, cond_false, Bool.and_true, Bool.true_and, reduceIte, Nat.reduceEqDiff, Nat.reduceAdd, Nat.reduceLeDiff, Nat.zero_add, Nat.zero_le, Nat.zero_ne_one, Nat.one_ne_zero, Nat.reduceLT, true_or, or_true, false_or, or_false, false_and, true_and, and_false, and_true, not_false_eq_true, not_true_eq_false, eq_self, mA_A, mA_I, mI_A, mI_I, b01, b10, b01n, b10n, i10, i01, im0, ei_max, ei_min, ei_obj, n30, n20, b011, b101, orn, nor, dneg, dnle, dne, dcl, cat0, cat1, cat2, cat3, cat4, hN, h0, h2, h3, h4, h5, c1]
  | k + 1, j, g, r, L, hj, hr, hg, hN, h0, h2, h3, h4, h5 => by
    have c1 : ((4 : Int32) ≤ nI j) = False := eq_false (nI_ge (b := 4) (by omega) (by omega))
    obtain ⟨g1, r1, hg1, hr1, t1⟩ := M_99f (sc := sc) (d := d) (M := M) (t := t) (g := g) hS hT hg hR0 hR (show j < 4 by omega) hkd hnu hr hf hN h0 h2 h3 h4 h5
    obtain ⟨g2, p2, hg2, t2⟩ := M_sn_f (G0 := G0) hS hT hR0 hR hkd hnu hf k (j + 1) g1 r1 (e_st1 L 5 (.int (nI (j + 1)))) (by omega) hr1 hg1 (by simp (maxDischargeDepth := 9) only [nl_sti, nl_str, nl_ci, nl_cr, nl_nil, ld_cons, ld_st, lr_some, li_some, lj_some, n2_nl, n2_ci, n2_cr, n2_nil, n2_sti, n2_str, tl_some, tl_none, cat_le, List.length_cons, List.length_nil, Option.bind_some, Option.bind_none, Option.map_some, cond_true, cond_false, Bool.and_true, Bool.true_and, reduceIte, Nat.reduceEqDiff, Nat.reduceAdd, Nat.reduceLeDiff, Nat.zero_add, Nat.zero_le, Nat.zero_ne_one, Nat.one_ne_zero, Nat.reduceLT, true_or, or_true, false_or, or_false, false_and, true_and, and_false, and_true, not_false_eq_true, not_true_eq_false, eq_self, mA_A, mA_I, mI_A, mI_I, b01, b10, b01n, b10n, i10, i01, im0, ei_max, ei_min, ei_obj, n30, n20, hN]) (by simp only [nl_sti, nl_str, nl_ci, nl_cr, nl_nil, ld_cons, ld_st, lr_some, li_some, lj_some, n2_nl, n2_ci, n2_cr, n2_nil, n2_sti, n2_str, tl_some, tl_none, cat_le, List.length_cons, List.length_nil, Option.bind_some, Option.bind_none, Option.map_some, cond_true, cond_false, Bool.and_true, Bool.true_and, reduceIte, Nat.reduceEqDiff, Nat.reduceAdd, Nat.reduceLeDiff, Nat.zero_add, Nat.zero_le, Nat.zero_ne_one, Nat.one_ne_zero, Nat.reduceLT, true_or, or_true, false_or, or_false, false_and, true_and, and_false, and_true, not_false_eq_true, not_true_eq_false, eq_self, mA_A, mA_I, mI_A, mI_I, b01, b10, b01n, b10n, i10, i01, im0, ei_max, ei_min, ei_obj, n30, n20, h0]) (by simp only [nl_sti, nl_str, nl_ci, nl_cr, nl_nil, ld_cons, ld_st, lr_some, li_some, lj_some, n2_nl, n2_ci, n2_cr, n2_nil, n2_sti, n2_str, tl_some, tl_none, cat_le, List.length_cons, List.length_nil, Option.bind_some, Option.bind_none, Option.map_some, cond_true, cond_false, Bool.and_true, Bool.true_and, reduceIte, Nat.reduceEqDiff, Nat.reduceAdd, Nat.reduceLeDiff, Nat.zero_add, Nat.zero_le, Nat.zero_ne_one, Nat.one_ne_zero, Nat.reduceLT, true_or, or_true, false_or, or_false, false_and, true_and, and_false, and_true, not_false_eq_true, not_true_eq_false, eq_self, mA_A, mA_I, mI_A, mI_I, b01, b10, b01n, b10n, i10, i01, im0, ei_max, ei_min, ei_obj, n30, n20, h2]) (by simp only [nl_sti, nl_str, nl_ci, nl_cr, nl_nil, ld_cons, ld_st, lr_some, li_some, lj_some, n2_nl, n2_ci, n2_cr, n2_nil, n2_sti, n2_str, tl_some, tl_none, cat_le, List.length_cons, List.length_nil, Option.bind_some, Option.bind_none, Option.map_some, cond_true, cond_false, Bool.and_true, Bool.true_and, reduceIte, Nat.reduceEqDiff, Nat.reduceAdd, Nat.reduceLeDiff, Nat.zero_add, Nat.zero_le, Nat.zero_ne_one, Nat.one_ne_zero, Nat.reduceLT, true_or, or_true, false_or, or_false, false_and, true_and, and_false, and_true, not_false_eq_true, not_true_eq_false, eq_self, mA_A, mA_I, mI_A, mI_I, b01, b10, b01n, b10n, i10, i01, im0, ei_max, ei_min, ei_obj, n30, n20, h3]) (by simp only [nl_sti, nl_str, nl_ci, nl_cr, nl_nil, ld_cons, ld_st, lr_some, li_some, lj_some, n2_nl, n2_ci, n2_cr, n2_nil, n2_sti, n2_str, tl_some, tl_none, cat_le, List.length_cons, List.length_nil, Option.bind_some, Option.bind_none, Option.map_some, cond_true, cond_false, Bool.and_true, Bool.true_and, reduceIte, Nat.reduceEqDiff, Nat.reduceAdd, Nat.reduceLeDiff, Nat.zero_add, Nat.zero_le, Nat.zero_ne_one, Nat.one_ne_zero, Nat.reduceLT, true_or, or_true, false_or, or_false, false_and, true_and, and_false, and_true, not_false_eq_true, not_true_eq_false, eq_self, mA_A, mA_I, mI_A, mI_I, b01, b10, b01n, b10n, i10, i01, im0, ei_max, ei_min, ei_obj, n30, n20, h4]) (by simp only [nl_sti, nl_str, nl_ci, nl_cr, nl_nil, ld_cons, ld_st, lr_some, li_some, lj_some, n2_nl, n2_ci, n2_cr, n2_nil, n2_sti, n2_str, tl_some, tl_none, cat_le, List.length_cons, List.length_nil, Option.bind_some, Option.bind_none, Option.map_some, cond_true, cond_false, Bool.and_true, Bool.true_and, reduceIte, Nat.reduceEqDiff, Nat.reduceAdd, Nat.reduceLeDiff, Nat.zero_add, Nat.zero_le, Nat.zero_ne_one, Nat.one_ne_zero, Nat.reduceLT, true_or, or_true, false_or, or_false, false_and, true_and, and_false, and_true, not_false_eq_true, not_true_eq_false, eq_self, mA_A, mA_I, mI_A, mI_I, b01, b10, b01n, b10n, i10, i01, im0, ei_max, ei_min, ei_obj, n30, n20])
    refine ⟨g2, p2, hg2, ?_⟩
    rw [← t2, ← t1, s198_77]
    by_cases q0 : j = 0
    · have c2 : (nI j ≤ 0) = True := eq_true (by rw [q0]; decide)
      simp (maxDischargeDepth := 9) only [s198_79, s198_80, s198_83, s198_85, nl_sti, nl_str, nl_ci, nl_cr, nl_nil, ld_cons, ld_st, lr_some, li_some, lj_some, n2_nl, n2_ci, n2_cr, n2_nil, n2_sti, n2_str, tl_some, tl_none, cat_le, List.length_cons, List.length_nil, Option.bind_some, Option.bind_none, Option.map_some, cond_true, cond_false, Bool.and_true, Bool.true_and, reduceIte, Nat.reduceEqDiff, Nat.reduceAdd, Nat.reduceLeDiff, Nat.zero_add, Nat.zero_le, Nat.zero_ne_one, Nat.one_ne_zero, Nat.reduceLT, true_or, or_true, false_or, or_false, false_and, true_and, and_false, and_true, not_false_eq_true, not_true_eq_false, eq_self, mA_A, mA_I, mI_A, mI_I, b01, b10, b01n, b10n, i10, i01, im0, ei_max, ei_min, ei_obj, n30, n20, b011, b101, orn, nor, dneg, dnle, dne, dcl, cat0, cat1, cat2, cat3, cat4, hN, h0, h2, h3, h4, h5, c1, c2]
    · have c2 : (nI j ≤ 0) = False := eq_false (nI_nle (by omega) (by omega))
      by_cases q1 : j < nu
      · have c3 : (nI nu ≤ nI j) = False := eq_false (nI_ge q1 (by omega))
        have tc := M_comma_f (sc := sc) (d := d + 3) (M := M) (W := mR W 6 g) (p := po T r) (t := t) hS hf
        simp (maxDischargeDepth := 9) only [s198_79, s198_80, s198_83, s198_85, s198_88, s198_90, s198_92, s198_95, s198_96, nl_sti, nl_str, nl_ci, nl_cr, nl_nil, ld_cons, ld_st, lr_some, li_some, lj_some, n2_nl, n2_ci, n2_cr, n2_nil, n2_sti, n2_str, tl_some, tl_none, cat_le, List.length_cons, List.length_nil, Option.bind_some, Option.bind_none, Option.map_some, cond_true, cond_false, Bool.and_true, Bool.true_and, reduceIte, Nat.reduceEqDiff, Nat.reduceAdd, Nat.reduceLeDiff, Nat.zero_add, Nat.zero_le, Nat.zero_ne_one, Nat.one_ne_zero, Nat.reduceLT, true_or, or_true, false_or, or_false, false_and, true_and, and_false, and_true, not_false_eq_true, not_true_eq_false, eq_self, mA_A, mA_I, mI_A, mI_I, b01, b10, b01n, b10n, i10, i01, im0, ei_max, ei_min, ei_obj, n30, n20, b011, b101, orn, nor, dneg, dnle, dne, dcl, cat0, cat1, cat2, cat3, cat4, cM hS, hN, h0, h2, h3, h4, h5, c1, c2, c3, tc]
      · have c3 : (nI nu ≤ nI j) = True := eq_true (nI_le (by omega) (by omega))
        simp (maxDischargeDepth := 9) only [s198_79, s198_80, s198_83, s198_85, s198_88, s198_90, s198_92, nl_sti, nl_str, nl_ci, nl_cr, nl_nil, ld_cons, ld_st, lr_some, li_some, lj_some, n2_nl, n2_ci, n2_cr, n2_nil, n2_sti, n2_str, tl_some, tl_none, cat_le, List.length_cons, List.length_nil, Option.bind_some, Option.bind_none, Option.map_some, cond_true, cond_false, Bool.and_true, Bool.true_and, reduceIte, Nat.reduceEqDiff, Nat.reduceAdd, Nat.reduceLeDiff, Nat.zero_add, Nat.zero_le, Nat.zero_ne_one, Nat.one_ne_zero, Nat.reduceLT, true_or, or_true, false_or, or_false, false_and, true_and, and_false, and_true, not_false_eq_true, not_true_eq_false, eq_self, mA_A, mA_I, mI_A, mI_I, b01, b10, b01n, b10n, i10, i01, im0, ei_max, ei_min, ei_obj, n30, n20, b011, b101, orn, nor, dneg, dnle, dne, dcl, cat0, cat1, cat2, cat3, cat4, hN, h0, h2, h3, h4, h5, c1, c2, c3]
set_option maxRecDepth 20000 in
theorem M_sn (hS : ModSh sh a) (hT : RTp W T) {R0 kd nu : Nat} {G0 : Nat → Int32} (hR0 : 320 ≤ R0) (hR : R0 + 5 ≤ 400) (hkd : kd < 7) (hnu : nu ≤ 4) : ∀ (k j : Nat) (g : Nat → Int32) (r : List Nat) (L : aL), j + k = 4 → Sx T r → (∀ i, i < 320 → g i = G0 i) → e_n2 L → e_ld L 0 = some (.ref a) → e_ld L 2 = some (.int (nI R0)) → e_ld L 3 = some (.int (nI kd)) → e_ld L 4 = some (.int (nI nu)) → e_ld L 5 = some (.int (nI j)) → RSn (evp sc (d + 4) 198 77 L [] (mk sh (gl M a 15 (qS (mR W 6 g) (po T r) (-1) t)))) sh M W a t T G0 g (R0 + 1 + j) (snP T kd nu k (j + 1) r)
  | 0, j, g, r, L, hj, hr, hg, hN, h0, h2, h3, h4, h5 => by
    have c1 : ((4 : Int32) ≤ nI j) = True := eq_true (nI_le (a := 4) (by omega) (by omega))
    show _ = some (none, _)
    rw [s198_77]
    simp (maxDischargeDepth := 9) only [s198_79, s198_80, s198_144, nl_sti, nl_str, nl_ci, nl_cr, nl_nil, ld_cons, ld_st, lr_some, li_some, lj_some, n2_nl, n2_ci, n2_cr, n2_nil, n2_sti, n2_str, tl_some, tl_none, cat_le, List.length_cons, List.length_nil, Option.bind_some, Option.bind_none, Option.map_some, cond_true, cond_false, Bool.and_true, Bool.true_and, reduceIte, Nat.reduceEqDiff, Nat.reduceAdd, Nat.reduceLeDiff, Nat.zero_add, Nat.zero_le, Nat.zero_ne_one, Nat.one_ne_zero, Nat.reduceLT, true_or, or_true, false_or, or_false, false_and, true_and, and_false, and_true, not_false_eq_true, not_true_eq_false, eq_self, mA_A, mA_I, mI_A, mI_I, b01, b10, b01n, b10n, i10, i01, im0, ei_max, ei_min, ei_obj, n30, n20, b011, b101, orn, nor, dneg, dnle, dne, dcl, cat0, cat1, cat2, cat3, cat4, hN, h0, h2, h3, h4, h5, c1, wr]
  | k + 1, j, g, r, L, hj, hr, hg, hN, h0, h2, h3, h4, h5 => by
    have c1 : ((4 : Int32) ≤ nI j) = False := eq_false (nI_ge (b := 4) (by omega) (by omega))
    have hT' : ∀ g, RTp (mR W 6 g) T := fun g => hT.mR (by decide)
    have e1 : (nI R0 + 1 + nI j : Int32) = nI (R0 + 1 + j) := by rw [nI_1, nI_add]
    have hL : e_n2 (e_st1 L 5 (.int (nI (j + 1)))) := by simp (maxDischargeDepth := 9) only [nl_sti, nl_str, nl_ci, nl_cr, nl_nil, ld_cons, ld_st, lr_some, li_some, lj_some, n2_nl, n2_ci, n2_cr, n2_nil, n2_sti, n2_str, tl_some, tl_none, cat_le, List.length_cons, List.length_nil, Option.bind_some, Option.bind_none, Option.map_some, cond_true, cond_false, Bool.and_true, Bool.true_and, reduceIte, Nat.reduceEqDiff, Nat.reduceAdd, Nat.reduceLeDiff, Nat.zero_add, Nat.zero_le, Nat.zero_ne_one, Nat.one_ne_zero, Nat.reduceLT, true_or, or_true, false_or, or_false, false_and, true_and, and_false, and_true, not_false_eq_true, not_true_eq_false, eq_self, mA_A, mA_I, mI_A, mI_I, b01, b10, b01n, b10n, i10, i01, im0, ei_max, ei_min, ei_obj, n30, n20, hN]
    have go := fun g' r' (hr' : Sx T r') (hg' : ∀ i, i < 320 → g' i = G0 i) => M_sn (G0 := G0) hS hT hR0 hR hkd hnu k (j + 1) g' r' (e_st1 L 5 (.int (nI (j + 1)))) (by omega) hr' hg' hL (by simp only [nl_sti, nl_str, nl_ci, nl_cr, nl_nil, ld_cons, ld_st, lr_some, li_some, lj_some, n2_nl, n2_ci, n2_cr, n2_nil, n2_sti, n2_str, tl_some, tl_none, cat_le, List.length_cons, List.length_nil, Option.bind_some, Option.bind_none, Option.map_some, cond_true, cond_false, Bool.and_true, Bool.true_and, reduceIte, Nat.reduceEqDiff, Nat.reduceAdd, Nat.reduceLeDiff, Nat.zero_add, Nat.zero_le, Nat.zero_ne_one, Nat.one_ne_zero, Nat.reduceLT, true_or, or_true, false_or, or_false, false_and, true_and, and_false, and_true, not_false_eq_true, not_true_eq_false, eq_self, mA_A, mA_I, mI_A, mI_I, b01, b10, b01n, b10n, i10, i01, im0, ei_max, ei_min, ei_obj, n30, n20, h0]) (by simp only [nl_sti, nl_str, nl_ci, nl_cr, nl_nil, ld_cons, ld_st, lr_some, li_some, lj_some, n2_nl, n2_ci, n2_cr, n2_nil, n2_sti, n2_str, tl_some, tl_none, cat_le, List.length_cons, List.length_nil, Option.bind_some, Option.bind_none, Option.map_some, cond_true, cond_false, Bool.and_true, Bool.true_and, reduceIte, Nat.reduceEqDiff, Nat.reduceAdd, Nat.reduceLeDiff, Nat.zero_add, Nat.zero_le, Nat.zero_ne_one, Nat.one_ne_zero, Nat.reduceLT, true_or, or_true, false_or, or_false, false_and, true_and, and_false, and_true, not_false_eq_true, not_true_eq_false, eq_self, mA_A, mA_I, mI_A, mI_I, b01, b10, b01n, b10n, i10, i01, im0, ei_max, ei_min, ei_obj, n30, n20, h2]) (by simp only [nl_sti, nl_str, nl_ci, nl_cr, nl_nil, ld_cons, ld_st, lr_some, li_some, lj_some, n2_nl, n2_ci, n2_cr, n2_nil, n2_sti, n2_str, tl_some, tl_none, cat_le, List.length_cons, List.length_nil, Option.bind_some, Option.bind_none, Option.map_some, cond_true, cond_false, Bool.and_true, Bool.true_and, reduceIte, Nat.reduceEqDiff, Nat.reduceAdd, Nat.reduceLeDiff, Nat.zero_add, Nat.zero_le, Nat.zero_ne_one, Nat.one_ne_zero, Nat.reduceLT, true_or, or_true, false_or, or_false, false_and, true_and, and_false, and_true, not_false_eq_true, not_true_eq_false, eq_self, mA_A, mA_I, mI_A, mI_I, b01, b10, b01n, b10n, i10, i01, im0, ei_max, ei_min, ei_obj, n30, n20, h3]) (by simp only [nl_sti, nl_str, nl_ci, nl_cr, nl_nil, ld_cons, ld_st, lr_some, li_some, lj_some, n2_nl, n2_ci, n2_cr, n2_nil, n2_sti, n2_str, tl_some, tl_none, cat_le, List.length_cons, List.length_nil, Option.bind_some, Option.bind_none, Option.map_some, cond_true, cond_false, Bool.and_true, Bool.true_and, reduceIte, Nat.reduceEqDiff, Nat.reduceAdd, Nat.reduceLeDiff, Nat.zero_add, Nat.zero_le, Nat.zero_ne_one, Nat.one_ne_zero, Nat.reduceLT, true_or, or_true, false_or, or_false, false_and, true_and, and_false, and_true, not_false_eq_true, not_true_eq_false, eq_self, mA_A, mA_I, mI_A, mI_I, b01, b10, b01n, b10n, i10, i01, im0, ei_max, ei_min, ei_obj, n30, n20, h4]) (by simp only [nl_sti, nl_str, nl_ci, nl_cr, nl_nil, ld_cons, ld_st, lr_some, li_some, lj_some, n2_nl, n2_ci, n2_cr, n2_nil, n2_sti, n2_str, tl_some, tl_none, cat_le, List.length_cons, List.length_nil, Option.bind_some, Option.bind_none, Option.map_some, cond_true, cond_false, Bool.and_true, Bool.true_and, reduceIte, Nat.reduceEqDiff, Nat.reduceAdd, Nat.reduceLeDiff, Nat.zero_add, Nat.zero_le, Nat.zero_ne_one, Nat.one_ne_zero, Nat.reduceLT, true_or, or_true, false_or, or_false, false_and, true_and, and_false, and_true, not_false_eq_true, not_true_eq_false, eq_self, mA_A, mA_I, mI_A, mI_I, b01, b10, b01n, b10n, i10, i01, im0, ei_max, ei_min, ei_obj, n30, n20])
    have hgu : ∀ u : Int32, ∀ i, i < 320 → up g (R0 + 1 + j) u i = G0 i := fun u i hi => by rw [up_o (by omega)]; exact hg i hi
    have gof := fun (f' : Int32) g' r' (hr' : Sx T r') (hg' : ∀ i, i < 320 → g' i = G0 i) (hf' : ¬ f' = -1) => M_sn_f (sc := sc) (d := d) (M := M) (t := t) (G0 := G0) hS hT hR0 hR hkd hnu hf' k (j + 1) g' r' (e_st1 L 5 (.int (nI (j + 1)))) (by omega) hr' hg' hL (by simp only [nl_sti, nl_str, nl_ci, nl_cr, nl_nil, ld_cons, ld_st, lr_some, li_some, lj_some, n2_nl, n2_ci, n2_cr, n2_nil, n2_sti, n2_str, tl_some, tl_none, cat_le, List.length_cons, List.length_nil, Option.bind_some, Option.bind_none, Option.map_some, cond_true, cond_false, Bool.and_true, Bool.true_and, reduceIte, Nat.reduceEqDiff, Nat.reduceAdd, Nat.reduceLeDiff, Nat.zero_add, Nat.zero_le, Nat.zero_ne_one, Nat.one_ne_zero, Nat.reduceLT, true_or, or_true, false_or, or_false, false_and, true_and, and_false, and_true, not_false_eq_true, not_true_eq_false, eq_self, mA_A, mA_I, mI_A, mI_I, b01, b10, b01n, b10n, i10, i01, im0, ei_max, ei_min, ei_obj, n30, n20, h0]) (by simp only [nl_sti, nl_str, nl_ci, nl_cr, nl_nil, ld_cons, ld_st, lr_some, li_some, lj_some, n2_nl, n2_ci, n2_cr, n2_nil, n2_sti, n2_str, tl_some, tl_none, cat_le, List.length_cons, List.length_nil, Option.bind_some, Option.bind_none, Option.map_some, cond_true, cond_false, Bool.and_true, Bool.true_and, reduceIte, Nat.reduceEqDiff, Nat.reduceAdd, Nat.reduceLeDiff, Nat.zero_add, Nat.zero_le, Nat.zero_ne_one, Nat.one_ne_zero, Nat.reduceLT, true_or, or_true, false_or, or_false, false_and, true_and, and_false, and_true, not_false_eq_true, not_true_eq_false, eq_self, mA_A, mA_I, mI_A, mI_I, b01, b10, b01n, b10n, i10, i01, im0, ei_max, ei_min, ei_obj, n30, n20, h2]) (by simp only [nl_sti, nl_str, nl_ci, nl_cr, nl_nil, ld_cons, ld_st, lr_some, li_some, lj_some, n2_nl, n2_ci, n2_cr, n2_nil, n2_sti, n2_str, tl_some, tl_none, cat_le, List.length_cons, List.length_nil, Option.bind_some, Option.bind_none, Option.map_some, cond_true, cond_false, Bool.and_true, Bool.true_and, reduceIte, Nat.reduceEqDiff, Nat.reduceAdd, Nat.reduceLeDiff, Nat.zero_add, Nat.zero_le, Nat.zero_ne_one, Nat.one_ne_zero, Nat.reduceLT, true_or, or_true, false_or, or_false, false_and, true_and, and_false, and_true, not_false_eq_true, not_true_eq_false, eq_self, mA_A, mA_I, mI_A, mI_I, b01, b10, b01n, b10n, i10, i01, im0, ei_max, ei_min, ei_obj, n30, n20, h3]) (by simp only [nl_sti, nl_str, nl_ci, nl_cr, nl_nil, ld_cons, ld_st, lr_some, li_some, lj_some, n2_nl, n2_ci, n2_cr, n2_nil, n2_sti, n2_str, tl_some, tl_none, cat_le, List.length_cons, List.length_nil, Option.bind_some, Option.bind_none, Option.map_some, cond_true, cond_false, Bool.and_true, Bool.true_and, reduceIte, Nat.reduceEqDiff, Nat.reduceAdd, Nat.reduceLeDiff, Nat.zero_add, Nat.zero_le, Nat.zero_ne_one, Nat.one_ne_zero, Nat.reduceLT, true_or, or_true, false_or, or_false, false_and, true_and, and_false, and_true, not_false_eq_true, not_true_eq_false, eq_self, mA_A, mA_I, mI_A, mI_I, b01, b10, b01n, b10n, i10, i01, im0, ei_max, ei_min, ei_obj, n30, n20, h4]) (by simp only [nl_sti, nl_str, nl_ci, nl_cr, nl_nil, ld_cons, ld_st, lr_some, li_some, lj_some, n2_nl, n2_ci, n2_cr, n2_nil, n2_sti, n2_str, tl_some, tl_none, cat_le, List.length_cons, List.length_nil, Option.bind_some, Option.bind_none, Option.map_some, cond_true, cond_false, Bool.and_true, Bool.true_and, reduceIte, Nat.reduceEqDiff, Nat.reduceAdd, Nat.reduceLeDiff, Nat.zero_add, Nat.zero_le, Nat.zero_ne_one, Nat.one_ne_zero, Nat.reduceLT, true_or, or_true, false_or, or_false, false_and, true_and, and_false, and_true, not_false_eq_true, not_true_eq_false, eq_self, mA_A, mA_I, mI_A, mI_I, b01, b10, b01n, b10n, i10, i01, im0, ei_max, ei_min, ei_obj, n30, n20])
    have pm1 : ∀ q, ¬ nI (po T q) = -1 := fun q => nI_nm1 (by have := hT.2.1; unfold po; omega)
    have w1 := fun (u f : Int32) (p : Nat) => M_w6q (M := M) (X := W) (p := p) (f := f) (t := t) (g := g) (u := u) hS (show R0 + 1 + j < 400 by omega)
    rw [snP]
    by_cases q1 : j + 1 ≤ nu
    · rw [if_pos q1]
      have c4 : (nI j < nI nu) = True := eq_true (by rw [nI_ltE (by omega) (by omega)]; omega)
      have c3 : (nI nu ≤ nI j) = False := eq_false (nI_ge (by omega) (by omega))
      -- behind the comma
      have fin : ∀ r1, Sx T r1 → RSn (evp sc (d + 4) 198 99 L [] (mk sh (gl M a 15 (qS (mR W 6 g) (po T r1) (-1) t)))) sh M W a t T G0 g (R0 + 1 + j) (if nok (mdg kd) r1 = true then
          (match snP T kd nu k (j + 1 + 1) (nr (mdg kd) r1) with
          | .error p => .error p
          | .ok q => .ok (nI (nv (mdg kd) r1) :: q.1, q.2))
        else .error (po T (nr (mdg kd) r1))) := fun r1 hr1 => by
        have ok : ∀ (E : aR), E = evp sc (d + 4) 198 77 (e_st1 L 5 (.int (nI (j + 1)))) [] (mk sh (gl M a 15 (qS (mR W 6 (up g (R0 + 1 + j) (nI (nv (mdg kd) r1)))) (po T (nr (mdg kd) r1)) (-1) t))) → RSn E sh M W a t T G0 g (R0 + 1 + j) (match snP T kd nu k (j + 1 + 1) (nr (mdg kd) r1) with
          | .error p => .error p
          | .ok q => .ok (nI (nv (mdg kd) r1) :: q.1, q.2)) := fun E hE => by
          have ih := go (up g (R0 + 1 + j) (nI (nv (mdg kd) r1))) (nr (mdg kd) r1) hr1.skp.rd (hgu _)
          rw [hE]
          cases ho : snP T kd nu k (j + 1 + 1) (nr (mdg kd) r1) with
          | error p => rw [ho] at ih; exact ih
          | ok q => rw [ho] at ih; exact ih
        by_cases qk : kd = 1
        · have em : mdg kd = 2 := if_pos qk
          have tk : (nI kd = 1) = True := eq_true (by rw [qk]; rfl)
          rw [em] at ok ⊢
          have tn := M_num (sc := sc) (d := d) (M := M) (t := t) hS (hT' g) (m := 2) (by decide) (by decide) hr1
          rw [show nI 2 = (2 : Int32) from rfl] at tn
          have tp : evp sc (d + 4) 198 99 L [] (mk sh (gl M a 15 (qS (mR W 6 g) (po T r1) (-1) t))) = evp sc (d + 4) 198 77 (e_st1 L 5 (.int (nI (j + 1)))) [] (mk sh (gl M a 15 (qS (mR W 6 (up g (R0 + 1 + j) (nI (nv 2 r1)))) (po T (nr 2 r1)) (if nok 2 r1 = true then -1 else nI (po T (nr 2 r1))) t))) := by
            rw [s198_99]
            simp (maxDischargeDepth := 9) only [s198_100, s198_103, s198_104, s198_105, s198_106, s198_108, s198_109, s198_111, s198_113, s198_120, s198_121, s198_122, s198_125, s198_126, s198_127, s198_130, s198_137, s198_138, s198_141, nl_sti, nl_str, nl_ci, nl_cr, nl_nil, ld_cons, ld_st, lr_some, li_some, lj_some, n2_nl, n2_ci, n2_cr, n2_nil, n2_sti, n2_str, tl_some, tl_none, cat_le, List.length_cons, List.length_nil, Option.bind_some, Option.bind_none, Option.map_some, cond_true, cond_false, Bool.and_true, Bool.true_and, reduceIte, Nat.reduceEqDiff, Nat.reduceAdd, Nat.reduceLeDiff, Nat.zero_add, Nat.zero_le, Nat.zero_ne_one, Nat.one_ne_zero, Nat.reduceLT, true_or, or_true, false_or, or_false, false_and, true_and, and_false, and_true, not_false_eq_true, not_true_eq_false, eq_self, mA_A, mA_I, mI_A, mI_I, b01, b10, b01n, b10n, i10, i01, im0, ei_max, ei_min, ei_obj, n30, n20, b011, b101, orn, nor, dneg, dnle, dne, dcl, cat0, cat1, cat2, cat3, cat4, gM9, cM, cM hS, hS, hN, h0, h2, h3, h4, h5, c4, tk, tn, e1, w1, nI_1, nI_add]
          by_cases qn : nok 2 r1 = true
          · rw [if_pos qn]
            rw [if_pos qn] at tp
            exact ok _ tp
          · rw [if_neg qn]
            rw [if_neg qn] at tp
            obtain ⟨g2, p2, hg2, t2⟩ := gof _ (up g (R0 + 1 + j) (nI (nv 2 r1))) (nr 2 r1) hr1.skp.rd (hgu _) (pm1 (nr 2 r1))
            exact Or.inl ⟨g2, p2, hg2, tp.trans t2⟩
        · have em : mdg kd = 1 := if_neg qk
          have tk : (nI kd = 1) = False := eq_false (fun z => qk ((nI_eq (b := 1) (by omega) (by decide)).mp z))
          rw [em] at ok ⊢
          by_cases qd : isD (sk r1) = true
          · cases hs : sk r1 with
            | nil => rw [hs] at qd; cases qd
            | cons x y =>
              have tn := M_digit (sc := sc) (d := d + 1) (M := M) (t := t) hS (hT' g) hr1 hs qd
              have hq : isD (x :: y) = true := by rw [← hs]; exact qd
              have hrd : rdD 1 0 (sk r1) = (x - 48, y) := by
                rw [hs, rd_s hq]
                show (10 * 0 + (x - 48), y) = _
                rw [Nat.mul_zero, Nat.zero_add]
              have hnv : nv 1 r1 = x - 48 := by unfold nv; rw [hrd]
              have hnr : nr 1 r1 = y := by unfold nr; rw [hrd]
              have hy : Sx T y := by have := hr1.skp; rw [hs] at this; exact this.tl
              have tp : evp sc (d + 4) 198 99 L [] (mk sh (gl M a 15 (qS (mR W 6 g) (po T r1) (-1) t))) = evp sc (d + 4) 198 77 (e_st1 L 5 (.int (nI (j + 1)))) [] (mk sh (gl M a 15 (qS (mR W 6 (up g (R0 + 1 + j) (nI (nv 1 r1)))) (po T (nr 1 r1)) (-1) t))) := by
                rw [hnv, hnr, s198_99]
                simp (maxDischargeDepth := 9) only [s198_100, s198_103, s198_104, s198_105, s198_106, s198_108, s198_109, s198_111, s198_113, s198_120, s198_121, s198_122, s198_133, s198_134, s198_137, s198_138, s198_141, nl_sti, nl_str, nl_ci, nl_cr, nl_nil, ld_cons, ld_st, lr_some, li_some, lj_some, n2_nl, n2_ci, n2_cr, n2_nil, n2_sti, n2_str, tl_some, tl_none, cat_le, List.length_cons, List.length_nil, Option.bind_some, Option.bind_none, Option.map_some, cond_true, cond_false, Bool.and_true, Bool.true_and, reduceIte, Nat.reduceEqDiff, Nat.reduceAdd, Nat.reduceLeDiff, Nat.zero_add, Nat.zero_le, Nat.zero_ne_one, Nat.one_ne_zero, Nat.reduceLT, true_or, or_true, false_or, or_false, false_and, true_and, and_false, and_true, not_false_eq_true, not_true_eq_false, eq_self, mA_A, mA_I, mI_A, mI_I, b01, b10, b01n, b10n, i10, i01, im0, ei_max, ei_min, ei_obj, n30, n20, b011, b101, orn, nor, dneg, dnle, dne, dcl, cat0, cat1, cat2, cat3, cat4, gM9, cM, cM hS, hS, hN, h0, h2, h3, h4, h5, c4, tk, tn, e1, w1, nI_1, nI_add]
              by_cases qn : nok 1 r1 = true
              · rw [if_pos qn]
                exact ok _ tp
              · rw [if_neg qn]
                have hD : isD (nr 1 r1) = true := by
                  cases z : isD (nr 1 r1) with
                  | true => rfl
                  | false => exact absurd (show nok 1 r1 = true by unfold nok; rw [qd, z]; rfl) qn
                have ih := go (up g (R0 + 1 + j) (nI (nv 1 r1))) (nr 1 r1) (by rw [hnr]; exact hy) (hgu _)
                rw [tp]
                by_cases q5 : nu < j + 1 + 1
                · rw [snP_end k (j + 1 + 1) _ q5] at ih
                  have ih : _ = some (none, _) := ih
                  exact Or.inr ⟨_, nr 1 r1, fun i hi => by rw [wr_o _ _ _ _ (by omega)]; exact hgu _ i hi, by rw [hnr]; exact hy, hD, rfl, ih⟩
                · obtain ⟨k', rfl⟩ : ∃ k', k = k' + 1 := ⟨k - 1, by omega⟩
                  rw [snP, if_pos (by omega), show cmI (j + 1 + 1) (nr 1 r1) = none by unfold cmI; rw [if_pos (by omega)]; exact cmP_D hD] at ih
                  have ih : RSn _ sh M W a t T G0 _ _ (.error (po T (sk (nr 1 r1)))) := ih
                  rw [sk_D hD] at ih
                  exact ih
          · have qd' : isD (sk r1) = false := by cases z : isD (sk r1); rfl; exact absurd z qd
            have tn := M_digit_x (sc := sc) (d := d + 1) (M := M) (t := t) hS (hT' g) hr1 qd'
            have hrd : rdD 1 0 (sk r1) = (0, sk r1) := rd_n qd'
            have hnr : nr 1 r1 = sk r1 := by unfold nr; rw [hrd]
            have qn : ¬ nok 1 r1 = true := by unfold nok; rw [qd']; exact Bool.false_ne_true
            rw [if_neg qn, hnr]
            obtain ⟨g2, p2, hg2, t2⟩ := gof _ (up g (R0 + 1 + j) 0) (sk r1) hr1.skp (hgu _) (pm1 (sk r1))
            refine Or.inl ⟨g2, p2, hg2, ?_⟩
            rw [← t2, s198_99]
            simp (maxDischargeDepth := 9) only [s198_100, s198_103, s198_104, s198_105, s198_106, s198_108, s198_109, s198_111, s198_113, s198_120, s198_121, s198_122, s198_133, s198_134, s198_137, s198_138, s198_141, nl_sti, nl_str, nl_ci, nl_cr, nl_nil, ld_cons, ld_st, lr_some, li_some, lj_some, n2_nl, n2_ci, n2_cr, n2_nil, n2_sti, n2_str, tl_some, tl_none, cat_le, List.length_cons, List.length_nil, Option.bind_some, Option.bind_none, Option.map_some, cond_true, cond_false, Bool.and_true, Bool.true_and, reduceIte, Nat.reduceEqDiff, Nat.reduceAdd, Nat.reduceLeDiff, Nat.zero_add, Nat.zero_le, Nat.zero_ne_one, Nat.one_ne_zero, Nat.reduceLT, true_or, or_true, false_or, or_false, false_and, true_and, and_false, and_true, not_false_eq_true, not_true_eq_false, eq_self, mA_A, mA_I, mI_A, mI_I, b01, b10, b01n, b10n, i10, i01, im0, ei_max, ei_min, ei_obj, n30, n20, b011, b101, orn, nor, dneg, dnle, dne, dcl, cat0, cat1, cat2, cat3, cat4, gM9, cM, cM hS, hS, hN, h0, h2, h3, h4, h5, c4, tk, tn, e1, w1, nI_1, nI_add]
      by_cases q0 : j = 0
      · have c2 : (nI j ≤ 0) = True := eq_true (by rw [q0]; decide)
        unfold cmI
        rw [if_neg (show ¬ 1 < j + 1 by omega)]
        have tp : evp sc (d + 4) 198 77 L [] (mk sh (gl M a 15 (qS (mR W 6 g) (po T r) (-1) t))) = evp sc (d + 4) 198 99 L [] (mk sh (gl M a 15 (qS (mR W 6 g) (po T r) (-1) t))) := by
          rw [s198_77]
          simp (maxDischargeDepth := 9) only [s198_79, s198_80, s198_83, s198_85, nl_sti, nl_str, nl_ci, nl_cr, nl_nil, ld_cons, ld_st, lr_some, li_some, lj_some, n2_nl, n2_ci, n2_cr, n2_nil, n2_sti, n2_str, tl_some, tl_none, cat_le, List.length_cons, List.length_nil, Option.bind_some, Option.bind_none, Option.map_some, cond_true, cond_false, Bool.and_true, Bool.true_and, reduceIte, Nat.reduceEqDiff, Nat.reduceAdd, Nat.reduceLeDiff, Nat.zero_add, Nat.zero_le, Nat.zero_ne_one, Nat.one_ne_zero, Nat.reduceLT, true_or, or_true, false_or, or_false, false_and, true_and, and_false, and_true, not_false_eq_true, not_true_eq_false, eq_self, mA_A, mA_I, mI_A, mI_I, b01, b10, b01n, b10n, i10, i01, im0, ei_max, ei_min, ei_obj, n30, n20, b011, b101, orn, nor, dneg, dnle, dne, dcl, cat0, cat1, cat2, cat3, cat4, hN, h0, h2, h3, h4, h5, c1, c2]
        rw [tp]
        exact fin r hr
      · have c2 : (nI j ≤ 0) = False := eq_false (nI_nle (by omega) (by omega))
        unfold cmI
        rw [if_pos (show 1 < j + 1 by omega)]
        cases hc : cmP r with
        | none =>
          have tc := M_comma_n (sc := sc) (d := d + 1) (M := M) (t := t) hS (hT' g) hr hc
          obtain ⟨g1, r1, hg1, hr1, t1⟩ := M_99f (sc := sc) (d := d) (M := M) (t := t) (g := g) (G0 := G0) hS hT hg hR0 hR (show j < 4 by omega) hkd hnu hr.skp (pm1 (sk r)) hN h0 h2 h3 h4 h5
          obtain ⟨g2, p2, hg2, t2⟩ := gof _ g1 r1 hr1 hg1 (pm1 (sk r))
          refine Or.inl ⟨g2, p2, hg2, ?_⟩
          rw [← t2, ← t1, s198_77]
          simp (maxDischargeDepth := 9) only [s198_79, s198_80, s198_83, s198_85, s198_88, s198_90, s198_92, s198_95, s198_96, nl_sti, nl_str, nl_ci, nl_cr, nl_nil, ld_cons, ld_st, lr_some, li_some, lj_some, n2_nl, n2_ci, n2_cr, n2_nil, n2_sti, n2_str, tl_some, tl_none, cat_le, List.length_cons, List.length_nil, Option.bind_some, Option.bind_none, Option.map_some, cond_true, cond_false, Bool.and_true, Bool.true_and, reduceIte, Nat.reduceEqDiff, Nat.reduceAdd, Nat.reduceLeDiff, Nat.zero_add, Nat.zero_le, Nat.zero_ne_one, Nat.one_ne_zero, Nat.reduceLT, true_or, or_true, false_or, or_false, false_and, true_and, and_false, and_true, not_false_eq_true, not_true_eq_false, eq_self, mA_A, mA_I, mI_A, mI_I, b01, b10, b01n, b10n, i10, i01, im0, ei_max, ei_min, ei_obj, n30, n20, b011, b101, orn, nor, dneg, dnle, dne, dcl, cat0, cat1, cat2, cat3, cat4, cM hS, hN, h0, h2, h3, h4, h5, c1, c2, c3, tc]
        | some r1 =>
          have tc := M_comma_y (sc := sc) (d := d + 1) (M := M) (t := t) hS (hT' g) hr hc
          have tp : evp sc (d + 4) 198 77 L [] (mk sh (gl M a 15 (qS (mR W 6 g) (po T r) (-1) t))) = evp sc (d + 4) 198 99 L [] (mk sh (gl M a 15 (qS (mR W 6 g) (po T r1) (-1) t))) := by
            rw [s198_77]
            simp (maxDischargeDepth := 9) only [s198_79, s198_80, s198_83, s198_85, s198_88, s198_90, s198_92, s198_95, s198_96, nl_sti, nl_str, nl_ci, nl_cr, nl_nil, ld_cons, ld_st, lr_some, li_some, lj_some, n2_nl, n2_ci, n2_cr, n2_nil, n2_sti, n2_str, tl_some, tl_none, cat_le, List.length_cons, List.length_nil, Option.bind_some, Option.bind_none, Option.map_some, cond_true, cond_false, Bool.and_true, Bool.true_and, reduceIte, Nat.reduceEqDiff, Nat.reduceAdd, Nat.reduceLeDiff, Nat.zero_add, Nat.zero_le, Nat.zero_ne_one, Nat.one_ne_zero, Nat.reduceLT, true_or, or_true, false_or, or_false, false_and, true_and, and_false, and_true, not_false_eq_true, not_true_eq_false, eq_self, mA_A, mA_I, mI_A, mI_I, b01, b10, b01n, b10n, i10, i01, im0, ei_max, ei_min, ei_obj, n30, n20, b011, b101, orn, nor, dneg, dnle, dne, dcl, cat0, cat1, cat2, cat3, cat4, cM hS, hN, h0, h2, h3, h4, h5, c1, c2, c3, tc]
          rw [tp]
          exact fin r1 (hr.tr (cmP_suf hc))
    · rw [if_neg q1]
      have c4 : (nI j < nI nu) = False := eq_false (by rw [nI_ltE (by omega) (by omega)]; omega)
      have c3 : (nI nu ≤ nI j) = True := eq_true (nI_le (by omega) (by omega))
      have ih := go (up g (R0 + 1 + j) (-1)) r hr (hgu _)
      have tp : evp sc (d + 4) 198 77 L [] (mk sh (gl M a 15 (qS (mR W 6 g) (po T r) (-1) t))) = evp sc (d + 4) 198 77 (e_st1 L 5 (.int (nI (j + 1)))) [] (mk sh (gl M a 15 (qS (mR W 6 (up g (R0 + 1 + j) (-1))) (po T r) (-1) t))) := by
        rw [s198_77]
        by_cases q0 : j = 0
        · have c2 : (nI j ≤ 0) = True := eq_true (by rw [q0]; decide)
          simp (maxDischargeDepth := 9) only [s198_79, s198_80, s198_83, s198_85, s198_99, s198_100, s198_103, s198_104, s198_105, s198_106, s198_108, s198_109, s198_111, s198_113, s198_116, s198_117, s198_137, s198_138, s198_141, nl_sti, nl_str, nl_ci, nl_cr, nl_nil, ld_cons, ld_st, lr_some, li_some, lj_some, n2_nl, n2_ci, n2_cr, n2_nil, n2_sti, n2_str, tl_some, tl_none, cat_le, List.length_cons, List.length_nil, Option.bind_some, Option.bind_none, Option.map_some, cond_true, cond_false, Bool.and_true, Bool.true_and, reduceIte, Nat.reduceEqDiff, Nat.reduceAdd, Nat.reduceLeDiff, Nat.zero_add, Nat.zero_le, Nat.zero_ne_one, Nat.one_ne_zero, Nat.reduceLT, true_or, or_true, false_or, or_false, false_and, true_and, and_false, and_true, not_false_eq_true, not_true_eq_false, eq_self, mA_A, mA_I, mI_A, mI_I, b01, b10, b01n, b10n, i10, i01, im0, ei_max, ei_min, ei_obj, n30, n20, b011, b101, orn, nor, dneg, dnle, dne, dcl, cat0, cat1, cat2, cat3, cat4, gM9, cM, hS, hN, h0, h2, h3, h4, h5, c1, c2, c4, e1, w1, nI_1, nI_add]
        · have c2 : (nI j ≤ 0) = False := eq_false (nI_nle (by omega) (by omega))
          simp (maxDischargeDepth := 9) only [s198_79, s198_80, s198_83, s198_85, s198_88, s198_90, s198_92, s198_99, s198_100, s198_103, s198_104, s198_105, s198_106, s198_108, s198_109, s198_111, s198_113, s198_116, s198_117, s198_137, s198_138, s198_141, nl_sti, nl_str, nl_ci, nl_cr, nl_nil, ld_cons, ld_st, lr_some, li_some, lj_some, n2_nl, n2_ci, n2_cr, n2_nil, n2_sti, n2_str, tl_some, tl_none, cat_le, List.length_cons, List.length_nil, Option.bind_some, Option.bind_none, Option.map_some, cond_true, cond_false, Bool.and_true, Bool.true_and, reduceIte, Nat.reduceEqDiff, Nat.reduceAdd, Nat.reduceLeDiff, Nat.zero_add, Nat.zero_le, Nat.zero_ne_one, Nat.one_ne_zero, Nat.reduceLT, true_or, or_true, false_or, or_false, false_and, true_and, and_false, and_true, not_false_eq_true, not_true_eq_false, eq_self, mA_A, mA_I, mI_A, mI_I, b01, b10, b01n, b10n, i10, i01, im0, ei_max, ei_min, ei_obj, n30, n20, b011, b101, orn, nor, dneg, dnle, dne, dcl, cat0, cat1, cat2, cat3, cat4, gM9, cM, hS, hN, h0, h2, h3, h4, h5, c1, c2, c3, c4, e1, w1, nI_1, nI_add]
      rw [tp]
      cases ho : snP T kd nu k (j + 1 + 1) r with
      | error p => rw [ho] at ih; exact ih
      | ok q => rw [ho] at ih; exact ih
end
