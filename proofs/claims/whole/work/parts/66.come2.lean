/-- a reference that has just these rules -/
def W00 (n dl bal lv : Nat) : aM := ((fun _ j => if j = 12 then nI n else 0), (fun _ j => if j = 1 then nI dl else if j = 2 then nI bal else if j = 3 then nI lv else 0), fun _ => 0)
theorem cW_00 (n dl bal lv : Nat) : cW (W00 n dl bal lv) n dl bal lv := ⟨rfl, rfl, rfl, rfl⟩
theorem cLd_00 (n dl bal lv : Nat) : cLd (W00 n dl bal lv) [] := ⟨rfl, fun j x hj => by cases hj⟩
theorem RI.co {R : aM} {f : Nat → Int32} {n dl bal lv t B : Nat} {wl : Nat → List Sg} {al : List (Nat → Int32)} {lg : LgT} {Ln : Nat → List (Option Se)} (h : RI R f n dl bal lv t B wl al lg Ln) : Co R (W00 n dl bal lv, f) n dl bal lv t B wl al lg [] ∧ Lns R f dl n (fun _ => t) Ln ∧ (∀ q, q < 14 → (Ln q).length ≤ dl) ∧ R.1 19 4 = nI (uS Ln) ∧ Uq (R.1 19 0) wl Ln := by
  obtain ⟨a1, a3, a4, a5, a6, a7, a8, a9, b1, b2, b3⟩ := h
  exact ⟨⟨a1, cW_00 _ _ _ _, a3, a4, a5, a6, a7, a8, a9, cLd_00 _ _ _ _⟩, b1, b2, b3⟩
theorem Co.ri {R : aM} {P : aP} {n dl bal lv t B : Nat} {wl : Nat → List Sg} {al : List (Nat → Int32)} {lg : LgT} {LL : List (Int32 × Int32)} {Ln : Nat → List (Option Se)} (h : Co R P n dl bal lv t B wl al lg LL) (b1 : Lns R P.2 dl n (fun _ => t) Ln) (b2 : ∀ q, q < 14 → (Ln q).length ≤ dl) (b3 : R.1 19 4 = nI (uS Ln) ∧ Uq (R.1 19 0) wl Ln) : RI R P.2 n dl bal lv t B wl al lg Ln := by
  obtain ⟨a1, a2, a3, a4, a5, a6, a7, a8, a9, a10⟩ := h
  exact ⟨a1, a3, a4, a5, a6, a7, a8, a9, b1, b2, b3⟩
theorem S_come {n dl bal lv t s g v : Nat} {al : List (Nat → Int32)} {lg : LgT} {Ln : Nat → List (Option Se)} (hs : s < n) (hg : g < 8) (hv : v < lv) : ∀ (m : Nat) (R : aM) (f : Nat → Int32) (B : Nat) (wl : Nat → List Sg), RI R f n dl bal lv t B wl al lg Ln → (wl s).length + m ≤ 30 → B + m < 2 ^ 31 → BrOk ((s * 2 + bs s g) * 3 + v) s (nI g) m R ∧ ∃ wl', RI (rBrg ((s * 2 + bs s g) * 3 + v) s (nI g) m R) (mCom s (bs s g) v (nI g) m (wl s).length f) n dl bal lv t (B + m) wl' al lg Ln ∧ (rBrg ((s * 2 + bs s g) * 3 + v) s (nI g) m R).1 19 0 = mCom s (bs s g) v (nI g) m (wl s).length f 1553
  | 0, R, f, B, wl, h, _, _ => ⟨trivial, wl, h, by obtain ⟨m, q1, q2, q3⟩ := h.2.1.1; exact q2.trans q3.symm⟩
  | m + 1, R, f, B, wl, h, hlen, hB => by
    obtain ⟨hC, b1, b2, b3, b4⟩ := h.co
    have hn8 : n ≤ 8 := hC.1.1.2.1
    have hdl : dl ≤ 3 := hC.1.1.2.2.2.1
    have hlv3 : lv ≤ 3 := hC.1.1.2.2.2.2.2.1
    have hb : bs s g < 2 := by unfold bs; split <;> omega
    obtain ⟨k, k1, k2, k3, k4, k5, k6, k7, k8⟩ := S_one hC hs hg hv (by omega) (by omega)
    have h1 : RI (rOne R ((s * 2 + bs s g) * 3 + v) s (nI g)) (mOne f s (bs s g) v (wl s).length (nI g)) n dl bal lv t (B + 1) (upl wl s (wl s ++ [(nI (k + 1), g, v, nI t)])) al lg Ln := by
      refine k5.ri (b1.cg hdl k8 (fun j p q => ?_)) b2 ⟨by rw [k7]; exact b3, by
        rw [k1] at b4
        rw [k6, ← nI_1]
        exact b4.push (by omega) (by rw [nI_1]; exact nI_lt (by omega) (by omega)) (by rw [nI_1])⟩
      show mOne _ _ _ _ _ _ j = _
      rw [mOne_hi (by omega) hb (by omega) (by omega) (by omega), if_neg (by omega)]
    have hl1 : (upl wl s (wl s ++ [(nI (k + 1), g, v, nI t)]) s).length = (wl s).length + 1 := by rw [upl_s, List.length_append]; rfl
    obtain ⟨i1, wl', i2, i3⟩ := S_come hs hg hv m _ _ (B + 1) _ h1 (by rw [hl1]; omega) (by omega)
    rw [hl1, show B + 1 + m = B + (m + 1) by omega] at i2
    rw [hl1] at i3
    exact ⟨⟨k3, k4, i1⟩, wl', i2, i3⟩
/-! WHAT IS SET ASIDE: the methods, both alike -/
def rSet (R : aM) (b : Nat) (s e : Int32) : aM := mA (mA (mA R 2 b e) 1 b (if e = 0 then -1 else s)) 3 b 0
def mSet (f : Nat → Int32) (b : Nat) (s e : Int32) : Nat → Int32 := up (up (up f (1558 + 3 * b) (if e = 0 then 0 else s + 1)) (1558 + 3 * b + 1) e) (1558 + 3 * b + 2) 0
section
variable {sc : aS} {d : Nat} {sh : List sE} {M W R : aM} {a w : Nat} {f : Nat → Int32} {h : aH}
theorem R_setAside (hS : RowSh sh a) {b : Nat} {s e : Int32} (hb : b < 2) : evp sc d 76 0 [(0, .ref a), (1, .int (nI b)), (2, .int s), (3, .int e)] [] (mk sh (gl M a 31 R)) = some (some (.int (R.2.1 2 b)), mk sh (gl M a 31 (rSet R b s e))) := by
  have i1 := in_nI hb (by decide : 2 < 2 ^ 31)
  have i2 := cl_nI hb (by decide : 2 < 2 ^ 31)
  by_cases c : e = 0
  · simp only [s76_0, s76_1, s76_4, s76_5, s76_6, s76_8, s76_9, s76_12, s76_13, s76_14, s76_15, s76_16, s76_19, s76_20, s76_21, s76_24, s76_25, s76_28, s76_29, s76_30, s76_31, s76_34, s76_35, s76_36, s76_37, s76_39, nl_sti, nl_str, nl_ci, nl_cr, nl_nil, ld_cons, ld_st, lr_some, li_some, lj_some, n2_nl, n2_ci, n2_cr, n2_nil, n2_sti, n2_str, tl_some, tl_none, cat_le, List.length_cons, List.length_nil, Option.bind_some, Option.bind_none, Option.map_some, cond_true, cond_false, Bool.and_true, Bool.true_and, reduceIte, Nat.reduceEqDiff, Nat.reduceAdd, Nat.reduceLeDiff, Nat.zero_add, Nat.zero_le, Nat.zero_ne_one, Nat.one_ne_zero, Nat.reduceLT, true_or, or_true, false_or, or_false, false_and, true_and, and_false, and_true, not_false_eq_true, not_true_eq_false, eq_self, mA_A, mA_I, mI_A, mI_I, b01, b10, b01n, b10n, i10, i01, im0, ei_max, ei_min, ei_obj, n30, n20, b011, b101, orn, nor, dneg, dnle, dne, dcl, cat0, cat1, cat2, cat3, cat4, gR0_0, pR0_0, gR0_1, pR0_1, gR0_2, pR0_2, gR0_3, pR0_3, gR0_4, pR0_4, gR0_5, pR0_5, gR0_6, pR0_6, gR0_7, gR0_8, gR0_9, gR0_10, gR0_11, gR0_12, gR0_13, gR0_14, gR0_15, gR0_16, cR0, aR1, wR1, aR2, wR2, aR3, wR3, cR5, cR17, cR19, cR26, cR28, cR30, hS, i1, i2, c, rSet]
  · simp only [s76_0, s76_1, s76_4, s76_5, s76_6, s76_8, s76_9, s76_12, s76_13, s76_14, s76_15, s76_16, s76_19, s76_20, s76_21, s76_24, s76_25, s76_28, s76_29, s76_30, s76_31, s76_34, s76_35, s76_36, s76_37, s76_39, nl_sti, nl_str, nl_ci, nl_cr, nl_nil, ld_cons, ld_st, lr_some, li_some, lj_some, n2_nl, n2_ci, n2_cr, n2_nil, n2_sti, n2_str, tl_some, tl_none, cat_le, List.length_cons, List.length_nil, Option.bind_some, Option.bind_none, Option.map_some, cond_true, cond_false, Bool.and_true, Bool.true_and, reduceIte, Nat.reduceEqDiff, Nat.reduceAdd, Nat.reduceLeDiff, Nat.zero_add, Nat.zero_le, Nat.zero_ne_one, Nat.one_ne_zero, Nat.reduceLT, true_or, or_true, false_or, or_false, false_and, true_and, and_false, and_true, not_false_eq_true, not_true_eq_false, eq_self, mA_A, mA_I, mI_A, mI_I, b01, b10, b01n, b10n, i10, i01, im0, ei_max, ei_min, ei_obj, n30, n20, b011, b101, orn, nor, dneg, dnle, dne, dcl, cat0, cat1, cat2, cat3, cat4, gR0_0, pR0_0, gR0_1, pR0_1, gR0_2, pR0_2, gR0_3, pR0_3, gR0_4, pR0_4, gR0_5, pR0_5, gR0_6, pR0_6, gR0_7, gR0_8, gR0_9, gR0_10, gR0_11, gR0_12, gR0_13, gR0_14, gR0_15, gR0_16, cR0, aR1, wR1, aR2, wR2, aR3, wR3, cR5, cR17, cR19, cR26, cR28, cR30, hS, i1, i2, c, rSet]
theorem M_reserves (hS : ModSh sh a) {b : Nat} {s e : Int32} (hw : isW w) (hb : b < 2) : evp sc d 234 0 [(0, .ref a), (1, .ref (a + w)), (2, .int (nI b)), (3, .int s), (4, .int e)] [] (mk sh (gl M a 15 (mR W w f))) = some (none, (mk sh (gl M a 15 (mR (mI W 0 33 (f (1558 + 3 * b + 1))) w (mSet f b s e))))) := by
  have hw' : w = 8 ∨ w = 9 := hw
  by_cases c : e = 0
  · simp (disch := omega) only [s234_0, s234_3, s234_4, s234_5, s234_6, s234_7, s234_9, s234_10, s234_11, s234_13, s234_14, s234_15, s234_16, s234_19, s234_20, s234_22, s234_24, s234_27, s234_28, s234_31, s234_32, s234_33, s234_34, s234_35, s234_36, s234_38, s234_39, s234_40, s234_42, s234_43, s234_44, s234_46, s234_47, s234_48, s234_49, s234_50, nl_sti, nl_str, nl_ci, nl_cr, nl_nil, ld_cons, ld_st, lr_some, li_some, lj_some, n2_nl, n2_ci, n2_cr, n2_nil, n2_sti, n2_str, tl_some, tl_none, cat_le, List.length_cons, List.length_nil, Option.bind_some, Option.bind_none, Option.map_some, cond_true, cond_false, Bool.and_true, Bool.true_and, reduceIte, Nat.reduceEqDiff, Nat.reduceAdd, Nat.reduceLeDiff, Nat.zero_add, Nat.zero_le, Nat.zero_ne_one, Nat.one_ne_zero, Nat.reduceLT, true_or, or_true, false_or, or_false, false_and, true_and, and_false, and_true, not_false_eq_true, not_true_eq_false, eq_self, mA_A, mA_I, mI_A, mI_I, b01, b10, b01n, b10n, i10, i01, im0, ei_max, ei_min, ei_obj, n30, n20, c2m, c3m, c4m, c5m, c6m, c16m, c25m, c30m, c80m, c1922m, c0a, c1a, c8a, c968a, c1160a, c1168a, c1176a, c1184a, c1200a, c1558a, c1564a, c1572a, c1580a, c1581a, c1741a, c1742a, nI_add, nI_1, nI_mul, na2, na3, na4, na5, na6, na7, na8, na16, na0, b011, b101, orn, nor, dneg, dnle, dne, dcl, cat0, cat1, cat2, cat3, cat4, cl0, ng0, cl1, ng1, cl2, ng2, cl3, ng3, cl4, ng4, cl5, ng5, cl6, ng6, cl7, ng7, cl8, ng8, cl39, ng39, cl40, ng40, cl60, ng60, cl1550, ng1550, cl1551, ng1551, cl1552, ng1552, cl1553, ng1553, cl1554, ng1554, cl1555, ng1555, cl1556, ng1556, cl1557, ng1557, cl1580, ng1580, cl1741, ng1741, mR_s, mR_mR, mR_I, mI_mR, mA_mR, mI_A, mI_I, up_s, up_up, aW hS hw, wW hS hw, gM33, pM33, cM, hS, c, mSet]
  · simp (disch := omega) only [s234_0, s234_3, s234_4, s234_5, s234_6, s234_7, s234_9, s234_10, s234_11, s234_13, s234_14, s234_15, s234_16, s234_19, s234_20, s234_22, s234_24, s234_27, s234_28, s234_31, s234_32, s234_33, s234_34, s234_35, s234_36, s234_38, s234_39, s234_40, s234_42, s234_43, s234_44, s234_46, s234_47, s234_48, s234_49, s234_50, nl_sti, nl_str, nl_ci, nl_cr, nl_nil, ld_cons, ld_st, lr_some, li_some, lj_some, n2_nl, n2_ci, n2_cr, n2_nil, n2_sti, n2_str, tl_some, tl_none, cat_le, List.length_cons, List.length_nil, Option.bind_some, Option.bind_none, Option.map_some, cond_true, cond_false, Bool.and_true, Bool.true_and, reduceIte, Nat.reduceEqDiff, Nat.reduceAdd, Nat.reduceLeDiff, Nat.zero_add, Nat.zero_le, Nat.zero_ne_one, Nat.one_ne_zero, Nat.reduceLT, true_or, or_true, false_or, or_false, false_and, true_and, and_false, and_true, not_false_eq_true, not_true_eq_false, eq_self, mA_A, mA_I, mI_A, mI_I, b01, b10, b01n, b10n, i10, i01, im0, ei_max, ei_min, ei_obj, n30, n20, c2m, c3m, c4m, c5m, c6m, c16m, c25m, c30m, c80m, c1922m, c0a, c1a, c8a, c968a, c1160a, c1168a, c1176a, c1184a, c1200a, c1558a, c1564a, c1572a, c1580a, c1581a, c1741a, c1742a, nI_add, nI_1, nI_mul, na2, na3, na4, na5, na6, na7, na8, na16, na0, b011, b101, orn, nor, dneg, dnle, dne, dcl, cat0, cat1, cat2, cat3, cat4, cl0, ng0, cl1, ng1, cl2, ng2, cl3, ng3, cl4, ng4, cl5, ng5, cl6, ng6, cl7, ng7, cl8, ng8, cl39, ng39, cl40, ng40, cl60, ng60, cl1550, ng1550, cl1551, ng1551, cl1552, ng1552, cl1553, ng1553, cl1554, ng1554, cl1555, ng1555, cl1556, ng1556, cl1557, ng1557, cl1580, ng1580, cl1741, ng1741, mR_s, mR_mR, mR_I, mI_mR, mA_mR, mI_A, mI_I, up_s, up_up, aW hS hw, wW hS hw, gM33, pM33, cM, hS, c, mSet]
end
theorem S_set {R : aM} {f : Nat → Int32} {n dl bal lv t B b s e : Nat} {wl : Nat → List Sg} {al : List (Nat → Int32)} {lg : LgT} {Ln : Nat → List (Option Se)} (h : RI R f n dl bal lv t B wl al lg Ln) (hb : b < 2) (hs : s < n) (he : e ≤ 9) (he1 : ¬ e = 1) : RI (rSet R b (nI s) (nI e)) (mSet f b (nI s) (nI e)) n dl bal lv t B wl al lg Ln ∧ R.2.1 2 b = f (1558 + 3 * b + 1) := by
  obtain ⟨a1, a3, a4, a5, a6, a7, a8, a9, b1, b2, b3⟩ := h
  have hdl : dl ≤ 3 := a1.1.2.2.2.1
  have hn8 : n ≤ 8 := a1.1.2.1
  have hA : ∀ k, ¬ k = 1 → ¬ k = 2 → ¬ k = 3 → (rSet R b (nI s) (nI e)).2.1 k = R.2.1 k := fun k p q r => by unfold rSet; rw [mA_o r, mA_o p, mA_o q]
  have hf : ∀ j, ¬ (1558 ≤ j ∧ j < 1564) → mSet f b (nI s) (nI e) j = f j := fun j hj => by unfold mSet; rw [up_o (by omega), up_o (by omega), up_o (by omega)]
  have hI : (rSet R b (nI s) (nI e)).1 = R.1 := rfl
  have he0 : (nI e = 0) = (e = 0) := propext ⟨fun q => (nI_eq (b := 0) (by omega) (by omega)).mp q, fun q => by rw [q]; rfl⟩
  refine ⟨⟨a1.cg (by rw [hI]) (hf _ (by omega)) (hf _ (by omega)) (hf _ (by omega)), a3.cg (Nat.le_refl _) (fun k _ => by rw [hI]) (fun j p q => hf j (by omega)), a4.cg (fun k p q => hA k (by omega) (by omega) (by omega)) (fun j p q => hf j (by omega)) (fun j p q => hf j (by omega)), a5.cg (Nat.le_refl _) (fun k p q => hA k (by omega) (by omega) (by omega)) (fun l k p q _ => hf _ (by omega)), a6.cg (by rw [hI]) (fun k p q => hA k (by omega) (by omega) (by omega)) (fun j p => hf j (by omega)) (fun l p => hf _ (by omega)), fun b' hb' => ?_, a8.cg (by rw [hI]) (hA 29 (by decide) (by decide) (by decide)) (fun i hi => hf _ (by omega)), a9.cg (by rw [hI]) (hA 27 (by decide) (by decide) (by decide)) (fun i hi => hf _ (by omega)), b1.cg hdl (hA 18 (by decide) (by decide) (by decide)) (fun j p q => hf j (by omega)), b2, by rw [hI]; exact b3⟩, ?_⟩
  · by_cases eb : b' = b
    · subst eb
      refine ⟨if e = 0 then 0 else s + 1, e, 0, he, ?_, by omega, ?_, he1, ?_, ?_, ?_, ?_, ?_, fun q => ?_⟩
      · split <;> omega
      · constructor
        · intro q; rw [if_pos q]
        · intro q
          by_cases z : e = 0
          · exact z
          · rw [if_neg z] at q; omega
      · unfold rSet; rw [mA_o (by decide), mA_o (by decide), mA_At, if_pos rfl]
      · unfold mSet; rw [up_o (by omega), up_s]
      · unfold rSet wI
        rw [mA_o (by decide), mA_At, if_pos rfl]
        simp only [he0]
        by_cases z : e = 0
        · rw [if_pos z, if_pos z, if_pos rfl]
        · rw [if_neg z, if_neg z, if_neg (by omega)]; rfl
      · unfold mSet
        rw [up_o (by omega), up_o (by omega), up_s]
        simp only [he0]
        by_cases z : e = 0
        · rw [if_pos z, if_pos z]; rfl
        · rw [if_neg z, if_neg z, nI_1]
      · unfold mSet; rw [up_s]; rfl
      · unfold rSet; rw [mA_At, if_pos rfl, Nat.zero_mod]; rfl
    · obtain ⟨x, e', c, c1, c2, c3, c4, c5, c6, c7, c8, c9, c10, c11⟩ := a7 b' hb'
      have hfb : ∀ j, 1558 + 3 * b' ≤ j → j < 1558 + 3 * b' + 3 → mSet f b (nI s) (nI e) j = f j := fun j p q => by unfold mSet; rw [up_o (by omega), up_o (by omega), up_o (by omega)]
      refine ⟨x, e', c, c1, c2, c3, c4, c5, ?_, ?_, ?_, ?_, ?_, fun q => ?_⟩
      · unfold rSet; rw [mA_o (by decide), mA_o (by decide), mA_At, if_neg eb]; exact c6
      · rw [hfb _ (by omega) (by omega)]; exact c7
      · unfold rSet; rw [mA_o (by decide), mA_At, if_neg eb, mA_o (by decide)]; exact c8
      · rw [hfb _ (by omega) (by omega)]; exact c9
      · rw [hfb _ (by omega) (by omega)]; exact c10
      · unfold rSet; rw [mA_At, if_neg eb, mA_o (by decide), mA_o (by decide)]; exact c11 q
  · obtain ⟨x, e', c, c1, c2, c3, c4, c5, c6, c7, -⟩ := a7 b hb
    rw [c6, c7]
