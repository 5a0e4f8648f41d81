/-! A SCRIPT, a ROW: the reference's readers as wholes -/
def RSc (E : aR) (sh : List sE) (M W : aM) (a t : Nat) (g : Nat → Int32) (i : Nat) (q : Except Nat (List Int32)) : Prop := match q with
  | .error p => ∃ g' h' p', (∀ j, j < 4 → h' j = W.2.1 7 j) ∧ (∀ j, j < 320 → g' j = W.2.1 6 j) ∧ E = some (none, mk sh (gl M a 15 (qS (mR (mR W 6 g') 7 h') p' (nI p) t)))
  | .ok l => ∃ p' n, l.length = 5 * n ∧ 1 ≤ n ∧ i + n ≤ 16 ∧ E = some (none, mk sh (gl M a 15 (qS (mR (mR W 6 (wr g (320 + 5 * i) l)) 7 (up (W.2.1 7) 4 (nI (i + n)))) p' (-1) t)))
theorem snP_p {T : List Nat} {kd nu : Nat} : ∀ (k i : Nat) (r : List Nat) (p : Nat), snP T kd nu k i r = .error p → p ≤ T.length
  | 0, i, r, p, h => by cases h
  | k + 1, i, r, p, h => by
    have hp : ∀ r, po T r ≤ T.length := fun r => Nat.sub_le _ _
    rw [snP] at h
    split at h
    · cases hc : cmI i r with
      | none => rw [hc] at h; rw [← Except.error.inj h]; exact hp _
      | some r1 =>
        rw [hc] at h
        simp only at h
        split at h
        · cases ho : snP T kd nu k (i + 1) (nr (mdg kd) r1) with
          | error p' => rw [ho] at h; rw [← Except.error.inj h]; exact snP_p k _ _ p' ho
          | ok o => rw [ho] at h; cases h
        · rw [← Except.error.inj h]; exact hp _
    · cases ho : snP T kd nu k (i + 1) r with
      | error p' => rw [ho] at h; rw [← Except.error.inj h]; exact snP_p k _ _ p' ho
      | ok o => rw [ho] at h; cases h
theorem stP_p {T r : List Nat} {p : Nat} (h : stP T r = .error p) : p ≤ T.length := by
  unfold stP at h
  cases hx : ixr qls (sk r) with
  | none => rw [hx] at h; rw [← Except.error.inj h]; exact Nat.sub_le _ _
  | some kd =>
    rw [hx] at h
    simp only at h
    cases ho : snP T kd (nuf kd) 4 1 (sk r).tail with
    | error p' => rw [ho] at h; rw [← Except.error.inj h]; exact snP_p _ _ _ p' ho
    | ok o => rw [ho] at h; cases h
section
variable {sc : aS} {d : Nat} {sh : List sE} {M W X : aM} {a : Nat} {T r : List Nat} {v u f : Int32} {c t p : Nat} {h : aH} {g : Nat → Int32}
theorem M_rstep (hS : ModSh sh a) (hT : RTp W T) {n : Nat} {G0 : Nat → Int32} (hn : n < 16) (hr : Sx T r) (hg : ∀ i, i < 320 → g i = G0 i) : RSn (evp sc (d + 8 + 1 + 1) 198 0 [(0, .ref a), (1, .int (nI n))] [] (mk sh (gl M a 15 (qS (mR W 6 g) (po T r) (-1) t)))) sh M W a t T G0 g (320 + 5 * n) (stP T r) := by
  have hT' : RTp (mR W 6 g) T := hT.mR (by decide)
  have er : (5 : Int32) * (64 + nI n) = nI (320 + 5 * n) := by
    rw [show (64 : Int32) = nI 64 from rfl, nI_add, show (5 : Int32) = nI 5 from rfl, nI_mul]
    congr 1
    omega
  have tl := M_look (sc := sc) (d := d + 8) (M := M) (f := -1) (t := t) hS hT' r hr
  have tsp := M_ltr (sc := sc) (d := d) (r := sk r) (h := mk sh (gl M a 15 (qS (mR W 6 g) (po T (sk r)) (-1) t))) tx21 (by decide) (by decide) (fun c r' e => by
    have := hr.skp
    rw [e] at this
    exact (hT.2.2 _ _ this.get).2.2)
  have tf := M_fails (sc := sc) (d := d + 8 + 1) (M := M) (W := mR W 6 g) (f := -1) (t := t) (p := po T (sk r)) hS
  rw [if_pos rfl] at tf
  have hrs := hr.skp
  unfold stP
  cases hi : ixr qls (sk r) with
  | none =>
    rw [hi] at tsp
    refine Or.inl ⟨g, po T (sk r), hg, ?_⟩
    simp (maxDischargeDepth := 9) only [s198_0, s198_1, s198_3, s198_4, s198_5, s198_6, s198_7, s198_9, s198_10, s198_13, s198_16, s198_17, s198_18, s198_19, s198_22, s198_23, s198_26, nl_sti, nl_str, nl_ci, nl_cr, nl_nil, ld_cons, ld_st, lr_some, li_some, lj_some, n2_nl, n2_ci, n2_cr, n2_nil, n2_sti, n2_str, tl_some, tl_none, cat_le, List.length_cons, List.length_nil, Option.bind_some, Option.bind_none, Option.map_some, cond_true, cond_false, Bool.and_true, Bool.true_and, reduceIte, Nat.reduceEqDiff, Nat.reduceAdd, Nat.reduceLeDiff, Nat.zero_add, Nat.zero_le, Nat.zero_ne_one, Nat.one_ne_zero, Nat.reduceLT, true_or, or_true, false_or, or_false, false_and, true_and, and_false, and_true, not_false_eq_true, not_true_eq_false, eq_self, mA_A, mA_I, mI_A, mI_I, b01, b10, b01n, b10n, i10, i01, im0, ei_max, ei_min, ei_obj, n30, n20, b011, b101, orn, nor, dneg, dnle, dne, dcl, cat0, cat1, cat2, cat3, cat4, cM hS, nl_cj, er, tl, tsp, oI, tf]
  | some kd =>
    rw [hi] at tsp
    cases e : sk r with
    | nil => rw [e] at hi; cases hi
    | cons x r2 =>
      rw [e] at hi hrs tl tsp
      have hkd : kd < 7 := ix_lt (show ix qls x = some kd from hi)
      have km : (nI kd = -1) = False := eq_false (nI_nm1 (by omega))
      have hnu : nuf kd ≤ 4 := by
        rcases (show kd = 0 ∨ kd = 1 ∨ kd = 2 ∨ kd = 3 ∨ kd = 4 ∨ kd = 5 ∨ kd = 6 by omega) with rfl | rfl | rfl | rfl | rfl | rfl | rfl <;> decide
      have w1 := fun (u f : Int32) (p : Nat) => M_w6q (M := M) (X := W) (p := p) (f := f) (t := t) (g := g) (u := u) hS (show 320 + 5 * n < 400 by omega)
      have ih := M_sn (sc := sc) (d := d + 6) (M := M) (t := t) (G0 := G0) hS hT (R0 := 320 + 5 * n) (by omega) (by omega) hkd hnu 4 0 (up g (320 + 5 * n) (nI kd)) r2 (e_st1 (e_st1 (e_st1 (e_st1 [(0, .ref a), (1, .int (nI n))] 2 (.int (nI (320 + 5 * n)))) 3 (.int (nI kd))) 4 (.int (nI (nuf kd)))) 5 (.int 0)) (by omega) hrs.tl (fun i hi => by rw [up_o (by omega)]; exact hg i hi) (by simp (maxDischargeDepth := 9) only [nl_sti, nl_str, nl_ci, nl_cr, nl_nil, ld_cons, ld_st, lr_some, li_some, lj_some, n2_nl, n2_ci, n2_cr, n2_nil, n2_sti, n2_str, tl_some, tl_none, cat_le, List.length_cons, List.length_nil, Option.bind_some, Option.bind_none, Option.map_some, cond_true, cond_false, Bool.and_true, Bool.true_and, reduceIte, Nat.reduceEqDiff, Nat.reduceAdd, Nat.reduceLeDiff, Nat.zero_add, Nat.zero_le, Nat.zero_ne_one, Nat.one_ne_zero, Nat.reduceLT, true_or, or_true, false_or, or_false, false_and, true_and, and_false, and_true, not_false_eq_true, not_true_eq_false, eq_self, mA_A, mA_I, mI_A, mI_I, b01, b10, b01n, b10n, i10, i01, im0, ei_max, ei_min, ei_obj, n30, n20, nl_cj]) (by simp only [nl_sti, nl_str, nl_ci, nl_cr, nl_nil, ld_cons, ld_st, lr_some, li_some, lj_some, n2_nl, n2_ci, n2_cr, n2_nil, n2_sti, n2_str, tl_some, tl_none, cat_le, List.length_cons, List.length_nil, Option.bind_some, Option.bind_none, Option.map_some, cond_true, cond_false, Bool.and_true, Bool.true_and, reduceIte, Nat.reduceEqDiff, Nat.reduceAdd, Nat.reduceLeDiff, Nat.zero_add, Nat.zero_le, Nat.zero_ne_one, Nat.one_ne_zero, Nat.reduceLT, true_or, or_true, false_or, or_false, false_and, true_and, and_false, and_true, not_false_eq_true, not_true_eq_false, eq_self, mA_A, mA_I, mI_A, mI_I, b01, b10, b01n, b10n, i10, i01, im0, ei_max, ei_min, ei_obj, n30, n20]) (by simp only [nl_sti, nl_str, nl_ci, nl_cr, nl_nil, ld_cons, ld_st, lr_some, li_some, lj_some, n2_nl, n2_ci, n2_cr, n2_nil, n2_sti, n2_str, tl_some, tl_none, cat_le, List.length_cons, List.length_nil, Option.bind_some, Option.bind_none, Option.map_some, cond_true, cond_false, Bool.and_true, Bool.true_and, reduceIte, Nat.reduceEqDiff, Nat.reduceAdd, Nat.reduceLeDiff, Nat.zero_add, Nat.zero_le, Nat.zero_ne_one, Nat.one_ne_zero, Nat.reduceLT, true_or, or_true, false_or, or_false, false_and, true_and, and_false, and_true, not_false_eq_true, not_true_eq_false, eq_self, mA_A, mA_I, mI_A, mI_I, b01, b10, b01n, b10n, i10, i01, im0, ei_max, ei_min, ei_obj, n30, n20]) (by simp only [nl_sti, nl_str, nl_ci, nl_cr, nl_nil, ld_cons, ld_st, lr_some, li_some, lj_some, n2_nl, n2_ci, n2_cr, n2_nil, n2_sti, n2_str, tl_some, tl_none, cat_le, List.length_cons, List.length_nil, Option.bind_some, Option.bind_none, Option.map_some, cond_true, cond_false, Bool.and_true, Bool.true_and, reduceIte, Nat.reduceEqDiff, Nat.reduceAdd, Nat.reduceLeDiff, Nat.zero_add, Nat.zero_le, Nat.zero_ne_one, Nat.one_ne_zero, Nat.reduceLT, true_or, or_true, false_or, or_false, false_and, true_and, and_false, and_true, not_false_eq_true, not_true_eq_false, eq_self, mA_A, mA_I, mI_A, mI_I, b01, b10, b01n, b10n, i10, i01, im0, ei_max, ei_min, ei_obj, n30, n20]) (by simp only [nl_sti, nl_str, nl_ci, nl_cr, nl_nil, ld_cons, ld_st, lr_some, li_some, lj_some, n2_nl, n2_ci, n2_cr, n2_nil, n2_sti, n2_str, tl_some, tl_none, cat_le, List.length_cons, List.length_nil, Option.bind_some, Option.bind_none, Option.map_some, cond_true, cond_false, Bool.and_true, Bool.true_and, reduceIte, Nat.reduceEqDiff, Nat.reduceAdd, Nat.reduceLeDiff, Nat.zero_add, Nat.zero_le, Nat.zero_ne_one, Nat.one_ne_zero, Nat.reduceLT, true_or, or_true, false_or, or_false, false_and, true_and, and_false, and_true, not_false_eq_true, not_true_eq_false, eq_self, mA_A, mA_I, mI_A, mI_I, b01, b10, b01n, b10n, i10, i01, im0, ei_max, ei_min, ei_obj, n30, n20]) (by simp only [nl_sti, nl_str, nl_ci, nl_cr, nl_nil, ld_cons, ld_st, lr_some, li_some, lj_some, n2_nl, n2_ci, n2_cr, n2_nil, n2_sti, n2_str, tl_some, tl_none, cat_le, List.length_cons, List.length_nil, Option.bind_some, Option.bind_none, Option.map_some, cond_true, cond_false, Bool.and_true, Bool.true_and, reduceIte, Nat.reduceEqDiff, Nat.reduceAdd, Nat.reduceLeDiff, Nat.zero_add, Nat.zero_le, Nat.zero_ne_one, Nat.one_ne_zero, Nat.reduceLT, true_or, or_true, false_or, or_false, false_and, true_and, and_false, and_true, not_false_eq_true, not_true_eq_false, eq_self, mA_A, mA_I, mI_A, mI_I, b01, b10, b01n, b10n, i10, i01, im0, ei_max, ei_min, ei_obj, n30, n20]; rfl)
      have tp : evp sc (d + 8 + 1 + 1) 198 0 [(0, .ref a), (1, .int (nI n))] [] (mk sh (gl M a 15 (qS (mR W 6 g) (po T r) (-1) t))) = evp sc (d + 6 + 4) 198 77 (e_st1 (e_st1 (e_st1 (e_st1 [(0, .ref a), (1, .int (nI n))] 2 (.int (nI (320 + 5 * n)))) 3 (.int (nI kd))) 4 (.int (nI (nuf kd)))) 5 (.int 0)) [] (mk sh (gl M a 15 (qS (mR W 6 (up g (320 + 5 * n) (nI kd))) (po T r2) (-1) t))) := by
        have pre : evp sc (d + 8 + 1 + 1) 198 0 [(0, .ref a), (1, .int (nI n))] [] (mk sh (gl M a 15 (qS (mR W 6 g) (po T r) (-1) t))) = evp sc (d + 8 + 1 + 1) 198 44 (e_st1 (e_st1 [(0, .ref a), (1, .int (nI n))] 2 (.int (nI (320 + 5 * n)))) 3 (.int (nI kd))) [] (mk sh (gl M a 15 (qS (mR W 6 (up g (320 + 5 * n) (nI kd))) (po T r2) (-1) t))) := by
          simp (maxDischargeDepth := 9) only [s198_0, s198_1, s198_3, s198_4, s198_5, s198_6, s198_7, s198_9, s198_10, s198_13, s198_16, s198_17, s198_18, s198_19, s198_27, s198_28r, s198_29, s198_32, s198_33, s198_34, s198_37, s198_38, s198_41, s198_42, s198_43, nl_sti, nl_str, nl_ci, nl_cr, nl_nil, ld_cons, ld_st, lr_some, li_some, lj_some, n2_nl, n2_ci, n2_cr, n2_nil, n2_sti, n2_str, tl_some, tl_none, cat_le, List.length_cons, List.length_nil, Option.bind_some, Option.bind_none, Option.map_some, cond_true, cond_false, Bool.and_true, Bool.true_and, reduceIte, Nat.reduceEqDiff, Nat.reduceAdd, Nat.reduceLeDiff, Nat.zero_add, Nat.zero_le, Nat.zero_ne_one, Nat.one_ne_zero, Nat.reduceLT, true_or, or_true, false_or, or_false, false_and, true_and, and_false, and_true, not_false_eq_true, not_true_eq_false, eq_self, mA_A, mA_I, mI_A, mI_I, b01, b10, b01n, b10n, i10, i01, im0, ei_max, ei_min, ei_obj, n30, n20, b011, b101, orn, nor, dneg, dnle, dne, dcl, cat0, cat1, cat2, cat3, cat4, gM3, pM3, gM9, cM, cM hS, hS, nl_cj, er, tl, tsp, oI, km, qS_3, qS_w3, nI_1, hrs.po1, w1]
        rw [pre, s198_44]
        rcases (show kd = 0 ∨ kd = 1 ∨ kd = 2 ∨ kd = 3 ∨ kd = 4 ∨ kd = 5 ∨ kd = 6 by omega) with rfl | rfl | rfl | rfl | rfl | rfl | rfl <;> (simp (maxDischargeDepth := 9) (decide := true) only [s198_45, s198_48, s198_49, s198_52, s198_53, s198_54, s198_57, s198_58, s198_61, s198_62, s198_64, s198_67, s198_68, s198_71, s198_72, s198_74, s198_75, nl_sti, nl_str, nl_ci, nl_cr, nl_nil, ld_cons, ld_st, lr_some, li_some, lj_some, n2_nl, n2_ci, n2_cr, n2_nil, n2_sti, n2_str, tl_some, tl_none, cat_le, List.length_cons, List.length_nil, Option.bind_some, Option.bind_none, Option.map_some, cond_true, cond_false, Bool.and_true, Bool.true_and, reduceIte, Nat.reduceEqDiff, Nat.reduceAdd, Nat.reduceLeDiff, Nat.zero_add, Nat.zero_le, Nat.zero_ne_one, Nat.one_ne_zero, Nat.reduceLT, true_or, or_true, false_or, or_false, false_and, true_and, and_false, and_true, not_false_eq_true, not_true_eq_false, eq_self, mA_A, mA_I, mI_A, mI_I, b01, b10, b01n, b10n, i10, i01, im0, ei_max, ei_min, ei_obj, n30, n20, b011, b101, orn, nor, dneg, dnle, dne, dcl, cat0, cat1, cat2, cat3, cat4, nl_cj, if_true, if_false]; rfl)
      show RSn _ sh M W a t T G0 g (320 + 5 * n) (match snP T kd (nuf kd) 4 1 r2 with
        | .error p => .error p
        | .ok q => .ok (nI kd :: q.1, q.2))
      rw [tp]
      cases ho : snP T kd (nuf kd) 4 1 r2 with
      | error p => rw [ho] at ih; exact ih
      | ok q => rw [ho] at ih; exact ih
theorem M_w7q (hS : ModSh sh a) : e_is (mk sh (gl M a 15 (qS X p f t))) (a + 7) 4 u = some (mk sh (gl M a 15 (qS (mR X 7 (up (X.2.1 7) 4 u)) p f t))) := by
  have : e_is (mk sh (gl M a 15 (qS X p f t))) (a + 7) (nI 4) u = some (mk sh (gl M a 15 (qS (mR X 7 (up (X.2.1 7) 4 u)) p f t))) := by
    rw [wM7 hS, cl_nI (show 4 < 5 by decide) (by decide), if_pos (fun z => z.elim (nI_pos (by omega)) (by omega)), ← mA_R]
    rfl
  exact this
theorem M_sc_loop (hS : ModSh sh a) (hT : RTp W T) : ∀ (k i : Nat) (g : Nat → Int32) (r : List Nat) (L : aL), i + k = 16 → 1 ≤ k → Sx T r → (∀ j, j < 320 → g j = W.2.1 6 j) → e_n2 L → e_ld L 0 = some (.ref a) → e_ld L 1 = some (.int (nI i)) → e_ld L 2 = some (.int 1) → RSc (evp sc (d + 8 + 1 + 1 + 1) 199 4 L [] (mk sh (gl M a 15 (qS (mR W 6 g) (po T r) (-1) t)))) sh M W a t g i (scP T k i r)
  | 0, i, g, r, L, hi, hk, hr, hg, hN, h0, h1, h2 => by omega
  | k + 1, i, g, r, L, hi, hk, hr, hg, hN, h0, h1, h2 => by
    have e10 : ((1 : Int32) = 0) = False := by decide
    have tst := M_rstep (sc := sc) (d := d) (M := M) (t := t) (g := g) (n := i) (G0 := W.2.1 6) hS hT (by omega) hr hg
    have s7 : ∀ g', (mR W 6 g').2.1 7 = W.2.1 7 := fun g' => mR_o (by decide)
    have e7 : ∀ g', mR (mR W 6 g') 7 (W.2.1 7) = mR W 6 g' := fun g' => by
      have := mR_self (mR W 6 g') 7
      rw [s7] at this
      exact this
    have h7 : ∀ u : Int32, ∀ j, j < 4 → up (W.2.1 7) 4 u j = W.2.1 7 j := fun u j hj => up_o (by omega)
    have w7 := fun g' (u f : Int32) (p : Nat) => M_w7q (M := M) (X := mR W 6 g') (p := p) (f := f) (t := t) (u := u) hS
    simp only [s7] at w7
    have hT2 : ∀ g', RTp (mR W 6 g') T := fun g' => hT.mR (by decide)
    have hT3 : ∀ g' g2, RTp (mR (mR W 6 g') 7 g2) T := fun g' g2 => (hT2 g').mR (by decide)
    -- no more: one step behind the other is over, something is left or nothing
    have out : ∀ (g' : Nat → Int32) (r1 : List Nat) (L2 : aL), Sx T r1 → sk r1 = r1 → e_n2 L2 → e_ld L2 0 = some (.ref a) → e_ld L2 1 = some (.int (nI (i + 1))) → evp sc (d + 8 + 1 + 1 + 1) 199 72 L2 [] (mk sh (gl M a 15 (qS (mR W 6 g') (po T r1) (-1) t))) = some (none, mk sh (gl M a 15 (qS (mR (mR W 6 g') 7 (up (W.2.1 7) 4 (nI (i + 1)))) (po T r1) (if r1 = [] then -1 else nI (po T r1)) t))) := fun g' r1 L2 hr1 hsk l0 l1 l2 => by
      have tl := M_look (sc := sc) (d := d + 8 + 1) (M := M) (f := -1) (t := t) hS (hT3 g' (up (W.2.1 7) 4 (nI (i + 1)))) r1 hr1
      rw [hsk] at tl
      rw [s199_72]
      cases r1 with
      | nil =>
        rw [if_pos rfl]
        simp (maxDischargeDepth := 9) only [s199_73, s199_76, s199_77, s199_78, s199_79, s199_80, s199_83, s199_84, s199_91, nl_sti, nl_str, nl_ci, nl_cr, nl_nil, ld_cons, ld_st, lr_some, li_some, lj_some, n2_nl, n2_ci, n2_cr, n2_nil, n2_sti, n2_str, tl_some, tl_none, cat_le, List.length_cons, List.length_nil, Option.bind_some, Option.bind_none, Option.map_some, cond_true, cond_false, Bool.and_true, Bool.true_and, reduceIte, Nat.reduceEqDiff, Nat.reduceAdd, Nat.reduceLeDiff, Nat.zero_add, Nat.zero_le, Nat.zero_ne_one, Nat.one_ne_zero, Nat.reduceLT, true_or, or_true, false_or, or_false, false_and, true_and, and_false, and_true, not_false_eq_true, not_true_eq_false, eq_self, mA_A, mA_I, mI_A, mI_I, b01, b10, b01n, b10n, i10, i01, im0, ei_max, ei_min, ei_obj, n30, n20, b011, b101, orn, nor, dneg, dnle, dne, dcl, cat0, cat1, cat2, cat3, cat4, gM10, cM, cM hS, hS, l0, l1, l2, w7, tl, hdm]
      | cons y r2 =>
        obtain ⟨-, hx0, hx⟩ := hT.2.2 _ _ hr1.get
        have fm1 : (nI y = -1) = False := eq_false (nI_nm1 (by omega))
        have tf := M_fails (sc := sc) (d := d + 8 + 1 + 1) (M := M) (W := mR (mR W 6 g') 7 (up (W.2.1 7) 4 (nI (i + 1)))) (f := -1) (t := t) (p := po T (y :: r2)) hS
        rw [if_pos rfl] at tf
        rw [if_neg (by intro z; cases z)]
        simp (maxDischargeDepth := 9) only [s199_73, s199_76, s199_77, s199_78, s199_79, s199_80, s199_83, s199_84, s199_87, s199_88, s199_91, nl_sti, nl_str, nl_ci, nl_cr, nl_nil, ld_cons, ld_st, lr_some, li_some, lj_some, n2_nl, n2_ci, n2_cr, n2_nil, n2_sti, n2_str, tl_some, tl_none, cat_le, List.length_cons, List.length_nil, Option.bind_some, Option.bind_none, Option.map_some, cond_true, cond_false, Bool.and_true, Bool.true_and, reduceIte, Nat.reduceEqDiff, Nat.reduceAdd, Nat.reduceLeDiff, Nat.zero_add, Nat.zero_le, Nat.zero_ne_one, Nat.one_ne_zero, Nat.reduceLT, true_or, or_true, false_or, or_false, false_and, true_and, and_false, and_true, not_false_eq_true, not_true_eq_false, eq_self, mA_A, mA_I, mI_A, mI_I, b01, b10, b01n, b10n, i10, i01, im0, ei_max, ei_min, ei_obj, n30, n20, b011, b101, orn, nor, dneg, dnle, dne, dcl, cat0, cat1, cat2, cat3, cat4, gM10, cM, cM hS, hS, l0, l1, l2, w7, tl, hdm, fm1, tf]
    rw [scP]
    -- the step, then what follows it, when there is no fault
    have aft : ∀ (g' : Nat → Int32) (r1 : List Nat), Sx T r1 → evp sc (d + 8 + 1 + 1) 198 0 [(0, .ref a), (1, .int (nI i))] [] (mk sh (gl M a 15 (qS (mR W 6 g) (po T r) (-1) t))) = some (none, mk sh (gl M a 15 (qS (mR W 6 g') (po T r1) (-1) t))) → (¬ hdm (sk r1) = 59) → evp sc (d + 8 + 1 + 1 + 1) 199 4 L [] (mk sh (gl M a 15 (qS (mR W 6 g) (po T r) (-1) t))) = some (none, mk sh (gl M a 15 (qS (mR (mR W 6 g') 7 (up (W.2.1 7) 4 (nI (i + 1)))) (po T (sk r1)) (if sk r1 = [] then -1 else nI (po T (sk r1))) t))) := fun g' r1 hr1 tt ne => by
      have tl := M_look (sc := sc) (d := d + 8 + 1) (M := M) (f := -1) (t := t) hS (hT2 g') r1 hr1
      have nf : (hdm (sk r1) = 59) = False := eq_false ne
      rw [← out g' (sk r1) (e_st1 (e_st1 L 1 (.int (nI (i + 1)))) 2 (.int 0)) hr1.skp (sk_sk r1) (by simp (maxDischargeDepth := 9) only [nl_sti, nl_str, nl_ci, nl_cr, nl_nil, ld_cons, ld_st, lr_some, li_some, lj_some, n2_nl, n2_ci, n2_cr, n2_nil, n2_sti, n2_str, tl_some, tl_none, cat_le, List.length_cons, List.length_nil, Option.bind_some, Option.bind_none, Option.map_some, cond_true, cond_false, Bool.and_true, Bool.true_and, reduceIte, Nat.reduceEqDiff, Nat.reduceAdd, Nat.reduceLeDiff, Nat.zero_add, Nat.zero_le, Nat.zero_ne_one, Nat.one_ne_zero, Nat.reduceLT, true_or, or_true, false_or, or_false, false_and, true_and, and_false, and_true, not_false_eq_true, not_true_eq_false, eq_self, mA_A, mA_I, mI_A, mI_I, b01, b10, b01n, b10n, i10, i01, im0, ei_max, ei_min, ei_obj, n30, n20, hN]) (by simp only [nl_sti, nl_str, nl_ci, nl_cr, nl_nil, ld_cons, ld_st, lr_some, li_some, lj_some, n2_nl, n2_ci, n2_cr, n2_nil, n2_sti, n2_str, tl_some, tl_none, cat_le, List.length_cons, List.length_nil, Option.bind_some, Option.bind_none, Option.map_some, cond_true, cond_false, Bool.and_true, Bool.true_and, reduceIte, Nat.reduceEqDiff, Nat.reduceAdd, Nat.reduceLeDiff, Nat.zero_add, Nat.zero_le, Nat.zero_ne_one, Nat.one_ne_zero, Nat.reduceLT, true_or, or_true, false_or, or_false, false_and, true_and, and_false, and_true, not_false_eq_true, not_true_eq_false, eq_self, mA_A, mA_I, mI_A, mI_I, b01, b10, b01n, b10n, i10, i01, im0, ei_max, ei_min, ei_obj, n30, n20, h0]) (by simp only [nl_sti, nl_str, nl_ci, nl_cr, nl_nil, ld_cons, ld_st, lr_some, li_some, lj_some, n2_nl, n2_ci, n2_cr, n2_nil, n2_sti, n2_str, tl_some, tl_none, cat_le, List.length_cons, List.length_nil, Option.bind_some, Option.bind_none, Option.map_some, cond_true, cond_false, Bool.and_true, Bool.true_and, reduceIte, Nat.reduceEqDiff, Nat.reduceAdd, Nat.reduceLeDiff, Nat.zero_add, Nat.zero_le, Nat.zero_ne_one, Nat.one_ne_zero, Nat.reduceLT, true_or, or_true, false_or, or_false, false_and, true_and, and_false, and_true, not_false_eq_true, not_true_eq_false, eq_self, mA_A, mA_I, mI_A, mI_I, b01, b10, b01n, b10n, i10, i01, im0, ei_max, ei_min, ei_obj, n30, n20]), s199_4]
      simp (maxDischargeDepth := 9) only [s199_5, s199_8, s199_9, s199_10, s199_13, s199_14, s199_17, s199_18, s199_22, s199_25, s199_26, s199_29, s199_31, s199_38, s199_39, s199_40, s199_41, s199_55, s199_56, nl_sti, nl_str, nl_ci, nl_cr, nl_nil, ld_cons, ld_st, lr_some, li_some, lj_some, n2_nl, n2_ci, n2_cr, n2_nil, n2_sti, n2_str, tl_some, tl_none, cat_le, List.length_cons, List.length_nil, Option.bind_some, Option.bind_none, Option.map_some, cond_true, cond_false, Bool.and_true, Bool.true_and, reduceIte, Nat.reduceEqDiff, Nat.reduceAdd, Nat.reduceLeDiff, Nat.zero_add, Nat.zero_le, Nat.zero_ne_one, Nat.one_ne_zero, Nat.reduceLT, true_or, or_true, false_or, or_false, false_and, true_and, and_false, and_true, not_false_eq_true, not_true_eq_false, eq_self, mA_A, mA_I, mI_A, mI_I, b01, b10, b01n, b10n, i10, i01, im0, ei_max, ei_min, ei_obj, n30, n20, b011, b101, orn, nor, dneg, dnle, dne, dcl, cat0, cat1, cat2, cat3, cat4, gM4, pM4, cM, cM hS, hS, hN, h0, h1, h2, e10, tt, qS_4, nI_1, tl, nf]
      rw [s199_4]
      simp (maxDischargeDepth := 9) only [s199_5, nl_sti, nl_str, nl_ci, nl_cr, nl_nil, ld_cons, ld_st, lr_some, li_some, lj_some, n2_nl, n2_ci, n2_cr, n2_nil, n2_sti, n2_str, tl_some, tl_none, cat_le, List.length_cons, List.length_nil, Option.bind_some, Option.bind_none, Option.map_some, cond_true, cond_false, Bool.and_true, Bool.true_and, reduceIte, Nat.reduceEqDiff, Nat.reduceAdd, Nat.reduceLeDiff, Nat.zero_add, Nat.zero_le, Nat.zero_ne_one, Nat.one_ne_zero, Nat.reduceLT, true_or, or_true, false_or, or_false, false_and, true_and, and_false, and_true, not_false_eq_true, not_true_eq_false, eq_self, mA_A, mA_I, mI_A, mI_I, b01, b10, b01n, b10n, i10, i01, im0, ei_max, ei_min, ei_obj, n30, n20, b011, b101, orn, nor, dneg, dnle, dne, dcl, cat0, cat1, cat2, cat3, cat4]
    cases ho : stP T r with
    | error p =>
      rw [ho] at tst
      rcases tst with ⟨g', p', hg', tt⟩ | ⟨g', r', hg', hr', hD, hp, tt⟩
      · refine ⟨g', W.2.1 7, p', fun _ _ => rfl, hg', ?_⟩
        rw [e7]
        have cf : (nI p = -1) = False := eq_false (nI_nm1 (by have := stP_p ho; have := hT.2.1; omega))
        rw [s199_4]
        simp (maxDischargeDepth := 9) only [s199_5, s199_8, s199_9, s199_10, s199_13, s199_14, s199_17, s199_18, s199_21, nl_sti, nl_str, nl_ci, nl_cr, nl_nil, ld_cons, ld_st, lr_some, li_some, lj_some, n2_nl, n2_ci, n2_cr, n2_nil, n2_sti, n2_str, tl_some, tl_none, cat_le, List.length_cons, List.length_nil, Option.bind_some, Option.bind_none, Option.map_some, cond_true, cond_false, Bool.and_true, Bool.true_and, reduceIte, Nat.reduceEqDiff, Nat.reduceAdd, Nat.reduceLeDiff, Nat.zero_add, Nat.zero_le, Nat.zero_ne_one, Nat.one_ne_zero, Nat.reduceLT, true_or, or_true, false_or, or_false, false_and, true_and, and_false, and_true, not_false_eq_true, not_true_eq_false, eq_self, mA_A, mA_I, mI_A, mI_I, b01, b10, b01n, b10n, i10, i01, im0, ei_max, ei_min, ei_obj, n30, n20, b011, b101, orn, nor, dneg, dnle, dne, dcl, cat0, cat1, cat2, cat3, cat4, gM4, pM4, cM, cM hS, hS, hN, h0, h1, h2, e10, tt, qS_4, cf]
      · have hsk := sk_D hD
        cases r' with
        | nil => cases hD
        | cons x y =>
          have hx := isD_c.mp hD
          have ne : ¬ hdm (sk (x :: y)) = 59 := by
            rw [hsk]
            exact fun z => by have := (nI_eq (b := 59) (by omega) (by decide)).mp z; omega
          have t2 := aft g' (x :: y) hr' tt ne
          rw [hsk, if_neg (by intro z; cases z), hp] at t2
          exact ⟨g', _, p, h7 _, hg', t2⟩
    | ok q =>
      obtain ⟨l5, r1⟩ := q
      rw [ho] at tst
      obtain ⟨s1, s2, s3, kd, l', s4, s5⟩ := stP_suf ho
      have s1 : Sx r r1 := s1
      have s2 : l5.length = 5 := s2
      have hgw : ∀ j, j < 320 → wr g (320 + 5 * i) l5 j = W.2.1 6 j := fun j hj => by rw [wr_o _ _ _ _ (by omega)]; exact hg j hj
      have hr1 : Sx T r1 := hr.tr s1
      have tt : evp sc (d + 8 + 1 + 1) 198 0 [(0, .ref a), (1, .int (nI i))] [] (mk sh (gl M a 15 (qS (mR W 6 g) (po T r) (-1) t))) = some (none, mk sh (gl M a 15 (qS (mR W 6 (wr g (320 + 5 * i) l5)) (po T r1) (-1) t))) := tst
      show RSc _ sh M W a t g i (match sk r1 with
        | [] => .ok l5
        | y :: r2 => if y = 59 ∧ ¬ i + 1 = 16 then
            (match scP T k (i + 1) r2 with
            | .error p => .error p
            | .ok l => .ok (l5 ++ l))
          else .error (po T (y :: r2)))
      have hrs := hr1.skp
      have tl := M_look (sc := sc) (d := d + 8 + 1) (M := M) (f := -1) (t := t) hS (hT2 (wr g (320 + 5 * i) l5)) r1 hr1
      cases e : sk r1 with
      | nil =>
        have t2 := aft _ r1 hr1 tt (by rw [e]; decide)
        rw [e, if_pos rfl] at t2
        exact ⟨po T [], 1, by omega, Nat.le_refl _, by omega, t2⟩
      | cons y r2 =>
        rw [e] at tl hrs
        obtain ⟨-, hx0, hx⟩ := hT.2.2 _ _ hrs.get
        have e16 : (nI (i + 1) = 16) = (i + 1 = 16) := propext (nI_eq (b := 16) (by omega) (by decide))
        by_cases qy : y = 59
        · have t59 : (nI y = 59) = True := eq_true (by rw [qy]; rfl)
          by_cases q16 : i + 1 = 16
          · have t16 : (nI (i + 1) = 16) = True := by rw [e16]; exact eq_true q16
            show RSc _ sh M W a t g i (if y = 59 ∧ ¬ i + 1 = 16 then _ else .error (po T (y :: r2)))
            rw [if_neg (fun z => z.2 q16)]
            have tf := M_fails (sc := sc) (d := d + 8 + 1 + 1) (M := M) (W := mR W 6 (wr g (320 + 5 * i) l5)) (f := -1) (t := t) (p := po T (y :: r2)) hS
            rw [if_pos rfl] at tf
            refine ⟨wr g (320 + 5 * i) l5, W.2.1 7, po T (y :: r2), fun _ _ => rfl, hgw, ?_⟩
            rw [e7, s199_4]
            simp (maxDischargeDepth := 9) only [s199_5, s199_8, s199_9, s199_10, s199_13, s199_14, s199_17, s199_18, s199_22, s199_25, s199_26, s199_29, s199_31, s199_34, s199_35, s199_39, s199_40, s199_41, s199_44, s199_45, s199_47, s199_50, s199_51, s199_54, nl_sti, nl_str, nl_ci, nl_cr, nl_nil, ld_cons, ld_st, lr_some, li_some, lj_some, n2_nl, n2_ci, n2_cr, n2_nil, n2_sti, n2_str, tl_some, tl_none, cat_le, List.length_cons, List.length_nil, Option.bind_some, Option.bind_none, Option.map_some, cond_true, cond_false, Bool.and_true, Bool.true_and, reduceIte, Nat.reduceEqDiff, Nat.reduceAdd, Nat.reduceLeDiff, Nat.zero_add, Nat.zero_le, Nat.zero_ne_one, Nat.one_ne_zero, Nat.reduceLT, true_or, or_true, false_or, or_false, false_and, true_and, and_false, and_true, not_false_eq_true, not_true_eq_false, eq_self, mA_A, mA_I, mI_A, mI_I, b01, b10, b01n, b10n, i10, i01, im0, ei_max, ei_min, ei_obj, n30, n20, b011, b101, orn, nor, dneg, dnle, dne, dcl, cat0, cat1, cat2, cat3, cat4, gM4, pM4, cM, cM hS, hS, hN, h0, h1, h2, e10, tt, qS_4, nI_1, tl, hdm, t59, t16, tf]
          · have t16 : (nI (i + 1) = 16) = False := by rw [e16]; exact eq_false q16
            show RSc _ sh M W a t g i (if y = 59 ∧ ¬ i + 1 = 16 then (match scP T k (i + 1) r2 with
              | .error p => .error p
              | .ok l => .ok (l5 ++ l)) else .error (po T (y :: r2)))
            rw [if_pos ⟨qy, q16⟩]
            have ih := M_sc_loop hS hT k (i + 1) (wr g (320 + 5 * i) l5) r2 (e_st1 (e_st1 L 1 (.int (nI (i + 1)))) 2 (.int 1)) (by omega) (by omega) hrs.tl hgw (by simp (maxDischargeDepth := 9) only [nl_sti, nl_str, nl_ci, nl_cr, nl_nil, ld_cons, ld_st, lr_some, li_some, lj_some, n2_nl, n2_ci, n2_cr, n2_nil, n2_sti, n2_str, tl_some, tl_none, cat_le, List.length_cons, List.length_nil, Option.bind_some, Option.bind_none, Option.map_some, cond_true, cond_false, Bool.and_true, Bool.true_and, reduceIte, Nat.reduceEqDiff, Nat.reduceAdd, Nat.reduceLeDiff, Nat.zero_add, Nat.zero_le, Nat.zero_ne_one, Nat.one_ne_zero, Nat.reduceLT, true_or, or_true, false_or, or_false, false_and, true_and, and_false, and_true, not_false_eq_true, not_true_eq_false, eq_self, mA_A, mA_I, mI_A, mI_I, b01, b10, b01n, b10n, i10, i01, im0, ei_max, ei_min, ei_obj, n30, n20, hN]) (by simp only [nl_sti, nl_str, nl_ci, nl_cr, nl_nil, ld_cons, ld_st, lr_some, li_some, lj_some, n2_nl, n2_ci, n2_cr, n2_nil, n2_sti, n2_str, tl_some, tl_none, cat_le, List.length_cons, List.length_nil, Option.bind_some, Option.bind_none, Option.map_some, cond_true, cond_false, Bool.and_true, Bool.true_and, reduceIte, Nat.reduceEqDiff, Nat.reduceAdd, Nat.reduceLeDiff, Nat.zero_add, Nat.zero_le, Nat.zero_ne_one, Nat.one_ne_zero, Nat.reduceLT, true_or, or_true, false_or, or_false, false_and, true_and, and_false, and_true, not_false_eq_true, not_true_eq_false, eq_self, mA_A, mA_I, mI_A, mI_I, b01, b10, b01n, b10n, i10, i01, im0, ei_max, ei_min, ei_obj, n30, n20, h0]) (by simp only [nl_sti, nl_str, nl_ci, nl_cr, nl_nil, ld_cons, ld_st, lr_some, li_some, lj_some, n2_nl, n2_ci, n2_cr, n2_nil, n2_sti, n2_str, tl_some, tl_none, cat_le, List.length_cons, List.length_nil, Option.bind_some, Option.bind_none, Option.map_some, cond_true, cond_false, Bool.and_true, Bool.true_and, reduceIte, Nat.reduceEqDiff, Nat.reduceAdd, Nat.reduceLeDiff, Nat.zero_add, Nat.zero_le, Nat.zero_ne_one, Nat.one_ne_zero, Nat.reduceLT, true_or, or_true, false_or, or_false, false_and, true_and, and_false, and_true, not_false_eq_true, not_true_eq_false, eq_self, mA_A, mA_I, mI_A, mI_I, b01, b10, b01n, b10n, i10, i01, im0, ei_max, ei_min, ei_obj, n30, n20]) (by simp only [nl_sti, nl_str, nl_ci, nl_cr, nl_nil, ld_cons, ld_st, lr_some, li_some, lj_some, n2_nl, n2_ci, n2_cr, n2_nil, n2_sti, n2_str, tl_some, tl_none, cat_le, List.length_cons, List.length_nil, Option.bind_some, Option.bind_none, Option.map_some, cond_true, cond_false, Bool.and_true, Bool.true_and, reduceIte, Nat.reduceEqDiff, Nat.reduceAdd, Nat.reduceLeDiff, Nat.zero_add, Nat.zero_le, Nat.zero_ne_one, Nat.one_ne_zero, Nat.reduceLT, true_or, or_true, false_or, or_false, false_and, true_and, and_false, and_true, not_false_eq_true, not_true_eq_false, eq_self, mA_A, mA_I, mI_A, mI_I, b01, b10, b01n, b10n, i10, i01, im0, ei_max, ei_min, ei_obj, n30, n20])
            have tp : evp sc (d + 8 + 1 + 1 + 1) 199 4 L [] (mk sh (gl M a 15 (qS (mR W 6 g) (po T r) (-1) t))) = evp sc (d + 8 + 1 + 1 + 1) 199 4 (e_st1 (e_st1 L 1 (.int (nI (i + 1)))) 2 (.int 1)) [] (mk sh (gl M a 15 (qS (mR W 6 (wr g (320 + 5 * i) l5)) (po T r2) (-1) t))) := by
              rw [s199_4]
              simp (maxDischargeDepth := 9) only [s199_5, s199_8, s199_9, s199_10, s199_13, s199_14, s199_17, s199_18, s199_22, s199_25, s199_26, s199_29, s199_31, s199_34, s199_35, s199_39, s199_40, s199_41, s199_44, s199_45, s199_47, s199_55, s199_56, s199_59, s199_60r, s199_61, s199_64, s199_65, s199_66, s199_69, nl_sti, nl_str, nl_ci, nl_cr, nl_nil, ld_cons, ld_st, lr_some, li_some, lj_some, n2_nl, n2_ci, n2_cr, n2_nil, n2_sti, n2_str, tl_some, tl_none, cat_le, List.length_cons, List.length_nil, Option.bind_some, Option.bind_none, Option.map_some, cond_true, cond_false, Bool.and_true, Bool.true_and, reduceIte, Nat.reduceEqDiff, Nat.reduceAdd, Nat.reduceLeDiff, Nat.zero_add, Nat.zero_le, Nat.zero_ne_one, Nat.one_ne_zero, Nat.reduceLT, true_or, or_true, false_or, or_false, false_and, true_and, and_false, and_true, not_false_eq_true, not_true_eq_false, eq_self, mA_A, mA_I, mI_A, mI_I, b01, b10, b01n, b10n, i10, i01, im0, ei_max, ei_min, ei_obj, n30, n20, b011, b101, orn, nor, dneg, dnle, dne, dcl, cat0, cat1, cat2, cat3, cat4, gM3, pM3, gM4, pM4, cM, cM hS, hS, hN, h0, h1, h2, e10, tt, qS_3, qS_4, qS_w3, nI_1, tl, hdm, t59, t16, hrs.po1]
            rw [tp]
            cases ho2 : scP T k (i + 1) r2 with
            | error p => rw [ho2] at ih; exact ih
            | ok l =>
              rw [ho2] at ih
              obtain ⟨p', n, n1, n2, n3, n4⟩ := ih
              refine ⟨p', n + 1, by rw [List.length_append, s2, n1]; omega, by omega, by omega, ?_⟩
              rw [n4, wr_app, s2, show 320 + 5 * (i + 1) = 320 + 5 * i + 5 by omega, show i + 1 + n = i + (n + 1) by omega]
        · show RSc _ sh M W a t g i (if y = 59 ∧ ¬ i + 1 = 16 then _ else .error (po T (y :: r2)))
          rw [if_neg (fun z => qy z.1)]
          have t2 := aft _ r1 hr1 tt (by
            rw [e]
            exact fun z => qy ((nI_eq (b := 59) (by omega) (by decide)).mp z))
          rw [e, if_neg (by intro z; cases z)] at t2
          exact ⟨_, _, _, h7 _, hgw, t2⟩
end
