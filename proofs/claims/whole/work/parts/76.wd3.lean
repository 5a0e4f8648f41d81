/-! WITHDRAWN: both alike -/
def qqw (wl : Nat → List Sg) : Nat → List Sg := fun l => ql wl (l / 6) (l % 6 / 3) (l % 3)
theorem QC_QX {A : Nat → Nat → Int32} {fre : Int32} {wl : Nat → List Sg} {cs : Nat → List Nat} {fr : List Nat} {own : Nat → Nat} (h : QC A fre wl cs fr own) : QX A fre (qqw wl) cs fr own (240 - tot wl) 48 := by
  obtain ⟨h1, h2, h3, h4⟩ := h
  refine ⟨fun l hl => ?_, h2, h3, by omega⟩
  obtain ⟨⟨q1, q2, q3, q4, q5, q6, q7⟩, hown⟩ := h1 (l / 6) (l % 6 / 3) (l % 3) (by omega) (by omega) (by omega)
  have e : (l / 6 * 2 + l % 6 / 3) * 3 + l % 3 = l := by omega
  rw [e] at q1 q2 q3 q4 q5 q6 q7 hown
  exact ⟨⟨q1, q2, q3, q4, q6, q7⟩, hown, fun _ => q5⟩
theorem QX_QC {A : Nat → Nat → Int32} {fre : Int32} {qq : Nat → List Sg} {wl : Nat → List Sg} {cs : Nat → List Nat} {fr : List Nat} {own : Nat → Nat} {N : Nat} (h : QX A fre qq cs fr own N 48) (hq : ∀ s b v, s < 8 → b < 2 → v < 3 → qq ((s * 2 + b) * 3 + v) = ql wl s b v) (hN : N + tot wl = 240) : QC A fre wl cs fr own := by
  obtain ⟨h1, h2, h3, h4⟩ := h
  refine ⟨fun s b v hs hb hv => ?_, h2, h3, by omega⟩
  obtain ⟨⟨q1, q2, q3, q4, q6, q7⟩, hown, hlast⟩ := h1 ((s * 2 + b) * 3 + v) (by omega)
  rw [hq s b v hs hb hv] at q7
  exact ⟨⟨q1, q2, q3, q4, hlast (by omega), q6, q7⟩, hown⟩
theorem bs_lt (s g : Nat) : bs s g < 2 := by unfold bs; split <;> omega
theorem wc_K {R : aM} {f : Nat → Int32} {n lv s g : Nat} {wl : Nat → List Sg} (hQ : cQ R f n lv wl) (hs : s < 8) (hlv : 1 ≤ lv) (hlv3 : lv ≤ 3) : sumK (fun v => (ql wl s (bs s g) v).tail.countP (fun y => decide (y.2.1 = g))) lv 0 = wc s (bs s g) g [] (wl s) := by
  obtain ⟨w1, w2, w3, w4⟩ := hQ.2.1 s hs
  have hl3 : ∀ x, x ∈ wl s → x.2.2.1 < 3 := fun x hx => by have := (w3 x hx).2; omega
  have he : ∀ v, lv ≤ v → ql wl s (bs s g) v = [] := by
    intro v hv
    unfold ql
    rw [List.filter_eq_nil_iff]
    intro x hx hz
    have := (isL_iff.mp hz).2
    have := (w3 x hx).2
    omega
  have hv : ∀ v, wcv s (bs s g) g v [] (wl s) = (ql wl s (bs s g) v).tail.countP (fun y => decide (y.2.1 = g)) := fun v => by
    rw [wcv_line, if_neg (by simp)]
    rfl
  rw [wc_sum rfl (wl s) [] hl3, hv, hv, hv]
  rcases (show lv = 1 ∨ lv = 2 ∨ lv = 3 by omega) with rfl | rfl | rfl
  · rw [he 1 (by omega), he 2 (by omega)]; rfl
  · rw [he 2 (by omega)]; simp only [sumK, Nat.zero_add, Nat.reduceAdd]; rw [List.tail_nil, List.countP_nil]; omega
  · simp only [sumK, Nat.zero_add, Nat.reduceAdd]; omega
theorem tlK_nil {g : Nat} {q : List Sg} : tlK g q = [] ↔ q = [] := by
  cases q with
  | nil => exact ⟨fun _ => rfl, fun _ => rfl⟩
  | cons x r => exact ⟨fun h => (by cases h), fun h => (by cases h)⟩
theorem cw_wd {z : Tg → Bool} {s b g q : Nat} : ∀ (l pre : List Sg), cw z q (wdF s b g pre l) ≤ cw z q l
  | [], _ => Nat.le_refl _
  | x :: r, pre => by
    have ih := cw_wd (z := z) (s := s) (b := b) (g := g) (q := q) r (pre ++ [x])
    unfold wdF
    unfold cw at ih ⊢
    split
    · rw [List.countP_cons]
      omega
    · rw [List.countP_cons, List.countP_cons]
      omega
theorem LV_wd {z : Tg → Bool} {wl : Nat → List Sg} {Ln : Nat → List (Option Se)} {s b g : Nat} (hs : s < 8) : LV z (upl wl s (wdF s b g [] (wl s))) Ln none ≤ LV z wl Ln none := by
  have e := CW_upl (p := z) (wl := wl) (l := wdF s b g [] (wl s)) hs
  have c := cw_wd (z := z) (s := s) (b := b) (g := g) (q := s) (wl s) []
  unfold LV
  omega
section
variable {sc : aS} {d : Nat} {sh : List sE} {M R : aM} {a : Nat} {f : Nat → Int32}
theorem R_wdN (hS : RowSh sh a) {n lv s g : Nat} {wl : Nat → List Sg} (hQ : cQ R f n lv wl) (hs : s < 8) (hg : g < 8) (hlv : 1 ≤ lv) (hlv3 : lv ≤ 3) (h3 : R.1 0 3 = nI lv) : evp sc (d + 2) 68 0 [(0, .ref a), (1, .int (nI s)), (2, .int (nI g))] [] (mk sh (gl M a 31 R)) = some (some (.int (nI (wc s (bs s g) g [] (wl s)))), mk sh (gl M a 31 R)) := by
  rw [← wc_K (g := g) hQ hs hlv hlv3]
  have hb := bs_lt s g
  refine R_toWithdraw hS hs hg hlv3 h3 (fun v hv => ?_)
  have hlen := cQ_len hQ hs hb (show v < 3 by omega)
  have hQ0 := hQ
  obtain ⟨⟨cs, fr, own, q1⟩, q2, q3, q4⟩ := hQ
  obtain ⟨w1, w2, w3, w4⟩ := q2 s hs
  have hL := (q1.1 s (bs s g) v hs hb (by omega)).1
  have h8 : ∀ x, x ∈ ql wl s (bs s g) v → x.2.1 < 8 := by
    intro x hx
    obtain ⟨k, hk⟩ := List.getElem?_of_mem (List.mem_filter.mp hx).1
    exact (w1.2.2 k x hk).2.1
  have hcl : (cs ((s * 2 + bs s g) * 3 + v)).length ≤ 240 := by
    have := congrArg List.length hL.2.2.2.2.2.2
    rw [List.length_map, List.length_map] at this
    omega
  rw [R_behindFirst hS (show (s * 2 + bs s g) * 3 + v < 48 by omega) hL hcl, QC_tail hL hg h8]
theorem S_wd (hS : RowSh sh a) {n dl bal lv t B s g : Nat} {wl : Nat → List Sg} {al : List (Nat → Int32)} {lg : LgT} {Ln : Nat → List (Option Se)} (h : RI R f n dl bal lv t B wl al lg Ln) (hs : s < n) (hg : g < 8) :
    ∃ R', evp sc (d + 3) 75 0 [(0, .ref a), (1, .int (nI s)), (2, .int (nI g))] [] (mk sh (gl M a 31 R)) = some (some (.int (nI (wc s (bs s g) g [] (wl s)))), mk sh (gl M a 31 R')) ∧ ∀ f', WS f' s (wdF s (bs s g) g [] (wl s)) → (∀ j, 968 ≤ j → f' j = f j) → (∀ j, j < 968 → ¬ j = s → ¬ (8 + 120 * s ≤ j ∧ j < 128 + 120 * s) → f' j = f j) → RI R' f' n dl bal lv t B (upl wl s (wdF s (bs s g) g [] (wl s))) al lg Ln := by
  obtain ⟨a1, a3, a4, a5, a6, a7, a8, a9, b1, b2, b3⟩ := h
  have hn8 : n ≤ 8 := a1.1.2.1
  have hdl : dl ≤ 3 := a1.1.2.2.2.1
  have hlv3 : lv ≤ 3 := a1.1.2.2.2.2.2.1
  have hlv1 : 1 ≤ lv := a1.2.2.2.2.2.2.2
  have h3 : R.1 0 3 = nI lv := a1.1.2.2.2.2.1
  have hs8 : s < 8 := by omega
  have hb := bs_lt s g
  have hcount := R_wdN (sc := sc) (d := d) (M := M) hS a6 hs8 hg hlv1 hlv3 h3
  have hK := wc_K (g := g) a6 hs8 hlv1 hlv3
  have a6' := a6
  obtain ⟨⟨cs, fr, own, q1⟩, q2, q3, q4⟩ := a6
  obtain ⟨w1, w2, w3, w4⟩ := q2 s hs8
  have hX := QC_QX q1
  have hqq : ∀ s' b' v', s' < 8 → b' < 2 → v' < 3 → (qqw wl) ((s' * 2 + b') * 3 + v') = ql wl s' b' v' := by
    intro s' b' v' p q r
    unfold qqw
    rw [show ((s' * 2 + b') * 3 + v') / 6 = s' by omega, show ((s' * 2 + b') * 3 + v') % 6 / 3 = b' by omega, show ((s' * 2 + b') * 3 + v') % 3 = v' by omega]
  have e1 : (if nI g ≤ nI s then (1 : Int32) else 0) = nI (bs s g) := by
    unfold bs
    by_cases q : g ≤ s
    · rw [if_pos (nI_le q (by omega)), if_pos q]; rfl
    · rw [if_neg (nI_ge (by omega) (by omega)), if_neg q]; rfl
  have e2 : (nI s * 2 + nI (bs s g)) * 3 + 0 = nI ((s * 2 + bs s g) * 3) := by simp only [nI_add, nI_1, nI_mul, nm2, nm3, nm4, nm5, nm6, nm8, nm16, nm25, nm30, nm32, nm80, na2, na3, na4, na5, na6, na7, na8, na16, na0]
  obtain ⟨R', g1, ⟨cs', fr', own', g2⟩, g3, g4, g5, g6⟩ := R_co_loop (sc := sc) (d := d + 1) (M := M) (n := nI (wc s (bs s g) g [] (wl s))) hS hs8 hg hlv3 (show (s * 2 + bs s g) * 3 + 3 ≤ 48 by omega) lv 0 R (qqw wl) cs fr own _ (e_st1 (e_st1 (e_st1 [(0, .ref a), (1, .int (nI s)), (2, .int (nI g))] 3 (.int (nI (wc s (bs s g) g [] (wl s))))) 4 (.int (nI ((s * 2 + bs s g) * 3)))) 5 (.int 0)) (by omega) h3 hX (fun v y hv hy => by
    rw [hqq s (bs s g) v hs8 hb (by omega)] at hy
    obtain ⟨k, hk⟩ := List.getElem?_of_mem (List.mem_filter.mp hy).1
    exact (w1.2.2 k y hk).2.1) (fun v hv => by
    rw [hqq s (bs s g) v hs8 hb (by omega)]
    have := (cQ_len a6' hs8 hb (show v < 3 by omega)).2
    omega) (by simp (maxDischargeDepth := 9) only [nl_sti, nl_str, nl_ci, nl_cr, nl_nil, ld_cons, ld_st, lr_some, li_some, lj_some, n2_nl, n2_ci, n2_cr, n2_nil, n2_sti, n2_str, tl_some, tl_none, cat_le, List.length_cons, List.length_nil, Option.bind_some, Option.bind_none, Option.map_some, cond_true, cond_false, Bool.and_true, Bool.true_and, reduceIte, Nat.reduceEqDiff, Nat.reduceAdd, Nat.reduceLeDiff, Nat.zero_add, Nat.zero_le, Nat.zero_ne_one, Nat.one_ne_zero, Nat.reduceLT, true_or, or_true, false_or, or_false, false_and, true_and, and_false, and_true, not_false_eq_true, not_true_eq_false, eq_self, mA_A, mA_I, mI_A, mI_I, b01, b10, b01n, b10n, i10, i01, im0, ei_max, ei_min, ei_obj, n30, n20]) (by simp only [nl_sti, nl_str, nl_ci, nl_cr, nl_nil, ld_cons, ld_st, lr_some, li_some, lj_some, n2_nl, n2_ci, n2_cr, n2_nil, n2_sti, n2_str, tl_some, tl_none, cat_le, List.length_cons, List.length_nil, Option.bind_some, Option.bind_none, Option.map_some, cond_true, cond_false, Bool.and_true, Bool.true_and, reduceIte, Nat.reduceEqDiff, Nat.reduceAdd, Nat.reduceLeDiff, Nat.zero_add, Nat.zero_le, Nat.zero_ne_one, Nat.one_ne_zero, Nat.reduceLT, true_or, or_true, false_or, or_false, false_and, true_and, and_false, and_true, not_false_eq_true, not_true_eq_false, eq_self, mA_A, mA_I, mI_A, mI_I, b01, b10, b01n, b10n, i10, i01, im0, ei_max, ei_min, ei_obj, n30, n20]) (by simp only [nl_sti, nl_str, nl_ci, nl_cr, nl_nil, ld_cons, ld_st, lr_some, li_some, lj_some, n2_nl, n2_ci, n2_cr, n2_nil, n2_sti, n2_str, tl_some, tl_none, cat_le, List.length_cons, List.length_nil, Option.bind_some, Option.bind_none, Option.map_some, cond_true, cond_false, Bool.and_true, Bool.true_and, reduceIte, Nat.reduceEqDiff, Nat.reduceAdd, Nat.reduceLeDiff, Nat.zero_add, Nat.zero_le, Nat.zero_ne_one, Nat.one_ne_zero, Nat.reduceLT, true_or, or_true, false_or, or_false, false_and, true_and, and_false, and_true, not_false_eq_true, not_true_eq_false, eq_self, mA_A, mA_I, mI_A, mI_I, b01, b10, b01n, b10n, i10, i01, im0, ei_max, ei_min, ei_obj, n30, n20]) (by simp only [nl_sti, nl_str, nl_ci, nl_cr, nl_nil, ld_cons, ld_st, lr_some, li_some, lj_some, n2_nl, n2_ci, n2_cr, n2_nil, n2_sti, n2_str, tl_some, tl_none, cat_le, List.length_cons, List.length_nil, Option.bind_some, Option.bind_none, Option.map_some, cond_true, cond_false, Bool.and_true, Bool.true_and, reduceIte, Nat.reduceEqDiff, Nat.reduceAdd, Nat.reduceLeDiff, Nat.zero_add, Nat.zero_le, Nat.zero_ne_one, Nat.one_ne_zero, Nat.reduceLT, true_or, or_true, false_or, or_false, false_and, true_and, and_false, and_true, not_false_eq_true, not_true_eq_false, eq_self, mA_A, mA_I, mI_A, mI_I, b01, b10, b01n, b10n, i10, i01, im0, ei_max, ei_min, ei_obj, n30, n20]) (by simp only [nl_sti, nl_str, nl_ci, nl_cr, nl_nil, ld_cons, ld_st, lr_some, li_some, lj_some, n2_nl, n2_ci, n2_cr, n2_nil, n2_sti, n2_str, tl_some, tl_none, cat_le, List.length_cons, List.length_nil, Option.bind_some, Option.bind_none, Option.map_some, cond_true, cond_false, Bool.and_true, Bool.true_and, reduceIte, Nat.reduceEqDiff, Nat.reduceAdd, Nat.reduceLeDiff, Nat.zero_add, Nat.zero_le, Nat.zero_ne_one, Nat.one_ne_zero, Nat.reduceLT, true_or, or_true, false_or, or_false, false_and, true_and, and_false, and_true, not_false_eq_true, not_true_eq_false, eq_self, mA_A, mA_I, mI_A, mI_I, b01, b10, b01n, b10n, i10, i01, im0, ei_max, ei_min, ei_obj, n30, n20]) (by simp only [nl_sti, nl_str, nl_ci, nl_cr, nl_nil, ld_cons, ld_st, lr_some, li_some, lj_some, n2_nl, n2_ci, n2_cr, n2_nil, n2_sti, n2_str, tl_some, tl_none, cat_le, List.length_cons, List.length_nil, Option.bind_some, Option.bind_none, Option.map_some, cond_true, cond_false, Bool.and_true, Bool.true_and, reduceIte, Nat.reduceEqDiff, Nat.reduceAdd, Nat.reduceLeDiff, Nat.zero_add, Nat.zero_le, Nat.zero_ne_one, Nat.one_ne_zero, Nat.reduceLT, true_or, or_true, false_or, or_false, false_and, true_and, and_false, and_true, not_false_eq_true, not_true_eq_false, eq_self, mA_A, mA_I, mI_A, mI_I, b01, b10, b01n, b10n, i10, i01, im0, ei_max, ei_min, ei_obj, n30, n20]) (by simp only [nl_sti, nl_str, nl_ci, nl_cr, nl_nil, ld_cons, ld_st, lr_some, li_some, lj_some, n2_nl, n2_ci, n2_cr, n2_nil, n2_sti, n2_str, tl_some, tl_none, cat_le, List.length_cons, List.length_nil, Option.bind_some, Option.bind_none, Option.map_some, cond_true, cond_false, Bool.and_true, Bool.true_and, reduceIte, Nat.reduceEqDiff, Nat.reduceAdd, Nat.reduceLeDiff, Nat.zero_add, Nat.zero_le, Nat.zero_ne_one, Nat.one_ne_zero, Nat.reduceLT, true_or, or_true, false_or, or_false, false_and, true_and, and_false, and_true, not_false_eq_true, not_true_eq_false, eq_self, mA_A, mA_I, mI_A, mI_I, b01, b10, b01n, b10n, i10, i01, im0, ei_max, ei_min, ei_obj, n30, n20] <;> rfl)
  have hsum : sumK (fun v => ((qqw wl) ((s * 2 + bs s g) * 3 + v)).tail.countP (fun y => decide (y.2.1 = g))) lv 0 = wc s (bs s g) g [] (wl s) := by
    rw [← hK]
    have key : ∀ (k j : Nat), j + k ≤ 3 → sumK (fun v => ((qqw wl) ((s * 2 + bs s g) * 3 + v)).tail.countP (fun y => decide (y.2.1 = g))) k j = sumK (fun v => (ql wl s (bs s g) v).tail.countP (fun y => decide (y.2.1 = g))) k j := by
      intro k
      induction k with
      | zero => intro j _; rfl
      | succ k ih =>
        intro j hj
        simp only [sumK]
        rw [ih (j + 1) (by omega), hqq s (bs s g) j hs8 hb (by omega)]
    exact key lv 0 (by omega)
  rw [hsum] at g2 g3 g4
  refine ⟨R', ?_, fun f' k1 k2 k3 => ?_⟩
  · rw [← g1]
    simp only [s75_0, s75_1, s75_2, s75_3, s75_6, s75_7, s75_8, s75_9, s75_10, s75_13, s75_14, s75_17, s75_19, s75_20, s75_24, s75_25, s75_28, s75_31, s75_32, s75_35, s75_37, s75_39, s75_40, s75_41, s75_42, s75_45, s75_48, s75_51, s75_52, nl_sti, nl_str, nl_ci, nl_cr, nl_nil, ld_cons, ld_st, lr_some, li_some, lj_some, n2_nl, n2_ci, n2_cr, n2_nil, n2_sti, n2_str, tl_some, tl_none, cat_le, List.length_cons, List.length_nil, Option.bind_some, Option.bind_none, Option.map_some, cond_true, cond_false, Bool.and_true, Bool.true_and, reduceIte, Nat.reduceEqDiff, Nat.reduceAdd, Nat.reduceLeDiff, Nat.zero_add, Nat.zero_le, Nat.zero_ne_one, Nat.one_ne_zero, Nat.reduceLT, true_or, or_true, false_or, or_false, false_and, true_and, and_false, and_true, not_false_eq_true, not_true_eq_false, eq_self, mA_A, mA_I, mI_A, mI_I, b01, b10, b01n, b10n, i10, i01, im0, ei_max, ei_min, ei_obj, n30, n20, b011, b101, orn, nor, dneg, dnle, dne, dcl, cat0, cat1, cat2, cat3, cat4, gR0_0, pR0_0, gR0_1, pR0_1, gR0_2, pR0_2, gR0_3, pR0_3, gR0_4, pR0_4, gR0_5, pR0_5, gR0_6, pR0_6, gR0_7, gR0_8, gR0_9, gR0_10, gR0_11, gR0_12, gR0_13, gR0_14, gR0_15, gR0_16, cR0, cR5, cR17, cR19, cR26, cR28, cR30, hS, hcount, R_busOf, e1, L_indexOf, e2]
  · have hwl := wd_len (s := s) (b := bs s g) (g := g) (wl s) []
    have htot := tot_upl (wl := wl) (l := wdF s (bs s g) g [] (wl s)) hs8
    have hfr := q1.2.2.2
    have hline : ∀ s' b' v', s' < 8 → b' < 2 → v' < 3 → ql (upl wl s (wdF s (bs s g) g [] (wl s))) s' b' v' = if s' = s ∧ b' = bs s g then tlK g (ql wl s' b' v') else ql wl s' b' v' := by
      intro s' b' v' p q r
      unfold ql
      by_cases es : s' = s
      · subst es
        rw [upl_s]
        by_cases eb : b' = bs s' g
        · rw [if_pos ⟨rfl, eb⟩, eb, wd_line, if_neg (by simp)]
        · rw [if_neg (fun z => eb z.2), wd_oth rfl eb]
      · rw [upl_o es, if_neg (fun z => es z.1)]
    refine ⟨a1.cg (g5 0 (by decide)) (k2 _ (by omega)) (k2 _ (by omega)) (k2 _ (by omega)), a3.cg (Nat.le_refl _) (fun k _ => by rw [g5 19 (by decide)]) (fun j p q => k2 j (by omega)), a4.cg (fun k p q => g6 k (by omega)) (fun j p q => k2 j (by omega)) (fun j p q => k2 j (by omega)), a5.cg (Nat.le_refl _) (fun k p q => g6 k (by omega)) (fun l k p q _ => k2 _ (by omega)), ⟨⟨cs', fr', own', ?_⟩, fun s' hs' => ?_, ?_, fun s' b' v' p q r => ?_⟩, a7.cg (Nat.le_refl _) (fun k p q => g6 k (by omega)) (fun j p q => k2 j (by omega)), a8.cg (g5 28 (by decide)) (g6 29 (by decide)) (fun i hi => k2 _ (by omega)), a9.cg (g5 26 (by decide)) (g6 27 (by decide)) (fun i hi => k2 _ (by omega)), b1.cg hdl (g6 18 (by decide)) (fun j p q => k2 j (by omega)), b2, by rw [g5 19 (by decide)]; exact b3.1, b3.2.le (by rw [g5 19 (by decide)]) (fun z => LV_wd hs8)⟩
    · refine QX_QC g2 (fun s' b' v' p q r => ?_) (by omega)
      rw [hline s' b' v' p q r]
      unfold qqk
      rw [hqq s' b' v' p q r]
      by_cases e : s' = s ∧ b' = bs s g
      · rw [if_pos e]
        obtain ⟨e1', e2'⟩ := e
        subst e1'
        subst e2'
        by_cases hv : v' < lv
        · rw [if_pos (by omega)]
        · rw [if_neg (by omega)]
          have : ql wl s' (bs s' g) v' = [] := by
            unfold ql
            rw [List.filter_eq_nil_iff]
            intro x hx hz
            have := (isL_iff.mp hz).2
            have := (w3 x hx).2
            omega
          rw [this]
          rfl
      · rw [if_neg e, if_neg]
        intro z
        apply e
        constructor <;> omega
    · obtain ⟨v1, v2, v3, v4⟩ := q2 s' hs'
      rw [g3]
      by_cases es : s' = s
      · subst es
        rw [upl_s, up_s]
        refine ⟨k1, ?_, fun y hy => v3 y (wd_sub _ _ y hy), fun z => by omega⟩
        rw [v2, nI_sub (by omega)]
        congr 1
        omega
      · rw [upl_o es, up_o es]
        exact ⟨WS_oth v1 hs8 hs' es k3, v2, v3, v4⟩
    · rw [g4, q3, nI_sub (by omega)]
      congr 1
      omega
    · rw [k2 _ (by omega), q4 s' b' v' p q r, hline s' b' v' p q r]
      by_cases e : s' = s ∧ b' = bs s g
      · rw [if_pos e]
        by_cases z : ql wl s' b' v' = []
        · rw [if_pos z, if_pos (tlK_nil.mpr z)]
        · rw [if_neg z, if_neg (fun y => z (tlK_nil.mp y))]
      · rw [if_neg e]
end
