/-! FAULT as a call -/
theorem Tp_T {M W : aM} (h : TpR M W) : ∃ T, CTp M T ∧ RTp W T := by
  obtain ⟨k, h1, h2, h3, h4⟩ := h
  refine ⟨(List.range k).map (fun i => (M.2.1 34 i).toNatClampNeg), ?_, ?_⟩
  · refine ⟨by rw [List.length_map, List.length_range]; exact h2, by rw [List.length_map, List.length_range]; exact h1, fun i c hc => ?_⟩
    have hi := (List.getElem?_eq_some_iff.mp hc).1
    rw [List.length_map, List.length_range] at hi
    obtain ⟨c', c1, c2, c3, c4⟩ := h4 i hi
    rw [List.getElem?_map, List.getElem?_range hi] at hc
    have e : (M.2.1 34 i).toNatClampNeg = c := Option.some.inj hc
    rw [c3, cl_nI c2 (by decide)] at e
    subst e
    exact ⟨c3, c1, c2⟩
  · refine ⟨by rw [List.length_map, List.length_range]; exact h3, by rw [List.length_map, List.length_range]; exact h1, fun i c hc => ?_⟩
    have hi := (List.getElem?_eq_some_iff.mp hc).1
    rw [List.length_map, List.length_range] at hi
    obtain ⟨c', c1, c2, c3, c4⟩ := h4 i hi
    rw [List.getElem?_map, List.getElem?_range hi] at hc
    have e : (M.2.1 34 i).toNatClampNeg = c := Option.some.inj hc
    rw [c3, cl_nI c2 (by decide)] at e
    subst e
    exact ⟨c4, c1, c2⟩
theorem T_Tp {M W : aM} {T : List Nat} (h1 : CTp M T) (h2 : RTp W T) : TpR M W := ⟨T.length, h1.2.1, h1.1, h2.1, fun i hi => by
  have e : T[i]? = some T[i] := List.getElem?_eq_getElem hi
  obtain ⟨a1, a2, a3⟩ := h1.2.2 i _ e
  exact ⟨T[i], a2, a3, a1, (h2.2.2 i _ e).1⟩⟩
theorem CTp.pS {M : aM} {T : List Nat} (h : CTp M T) (p : Nat) (v : Int32) (c : Nat) : CTp (pS M p v c) T := ⟨by rw [pS_4]; exact h.1, h.2.1, h.2.2⟩
theorem RTp.qS {W : aM} {T : List Nat} (h : RTp W T) (p : Nat) (f : Int32) (t : Nat) : RTp (qS W p f t) T := ⟨by rw [qS_2]; exact h.1, h.2.1, h.2.2⟩
theorem FrT_pS (M : aM) (p : Nat) (v : Int32) (c : Nat) : FrT M (pS M p v c) := ⟨fun x q => ⟨by unfold pS; rw [mI_o (by omega), mI_o (by omega), mI_o (by omega)], rfl⟩, by unfold pS; rw [mI_o (by decide), mI_o (by decide), mI_o (by decide)]⟩
theorem FrT_mR (M : aM) {k : Nat} (g : Nat → Int32) (hk : k < 38) : FrT M (mR M k g) := ⟨fun x q => ⟨rfl, mR_o (by omega)⟩, rfl⟩
theorem FrZ_qS (W : aM) (p : Nat) (f : Int32) (t : Nat) : FrZ W (qS W p f t) := by
  unfold qS
  exact ((FrZ_I W (by omega)).tr (FrZ_I _ (by omega))).tr (FrZ_I _ (by omega))
theorem FrZ_24 (W : aM) {k : Nat} (g : Nat → Int32) (hk : k = 2 ∨ k = 4) : FrZ W (mR W k g) := ⟨fun _ _ => rfl, fun j q => mR_o (by omega), fun j _ => by rw [mR_o (by omega)], fun j _ => by rw [mR_o (by omega)]⟩
theorem FrZ_67 (W : aM) {g h : Nat → Int32} (hg : ∀ j, j < 320 → g j = W.2.1 6 j) (hh : ∀ j, j < 4 → h j = W.2.1 7 j) : FrZ W (mR (mR W 6 g) 7 h) := ⟨fun _ _ => rfl, fun j q => by rw [mR_o (by omega), mR_o (by omega)], fun j hj => by rw [mR_o (by decide), mR_s]; exact hg j hj, fun j hj => by rw [mR_s]; exact hh j hj⟩
/-- what was read, when there is no fault -/
def Rd (x : Int32) (M W : aM) : Prop :=
  (x = 0 → ∃ cl, M.1 33 7 = nI cl ∧ W.1 0 11 = nI cl ∧ RdR (M.2.1 35, M.2.1 36, cl) (W.2.1 2, W.2.1 4, cl)) ∧
  (x = 1 → ∃ n, 1 ≤ n ∧ n ≤ 16 ∧ M.1 33 7 = nI n ∧ W.2.1 7 4 = nI n ∧ (∀ j, j < 5 * n → M.2.1 37 j = W.2.1 6 (320 + j)) ∧ ∀ j, j < n → ∃ k, k ≤ 6 ∧ M.2.1 37 (5 * j) = nI k)
section
variable {sc sc2 : aS} {d d2 : Nat} {sh sh2 : List sE} {M M2 W X : aM} {a kk : Nat} {T r : List Nat} {x : Int32} {B : Nat}
theorem Q_fault (hb : BusSh sh 32 33 38 41 72 74 109 110 kk) (h33 : shp sh 33 = some (.inl (9, [37, 38, 39, 40, 0, 0, 0, 0]))) (h34 : shp sh 34 = some (.inr (.inl (0, 240)))) (h35 : shp sh 35 = some (.inr (.inl (0, 5)))) (h36 : shp sh 36 = some (.inr (.inl (0, 32)))) (h37 : shp sh 37 = some (.inr (.inl (0, 80)))) (hS2 : ModSh sh2 a) (hT : CTp M T) (hR : RTp W T) : ∃ ans M1 W1, evp sc (d + 20) 130 0 [(0, .ref 32), (1, .int x)] [] (mk sh M) = some (some (.int ans), mk sh M1) ∧ evp sc2 (d2 + 20) 200 0 [(0, .ref a), (1, .int x)] [] (mk sh2 (gl M2 a 15 W)) = some (some (.int ans), mk sh2 (gl M2 a 15 W1)) ∧ FrT M M1 ∧ CTp M1 T ∧ FrZ W W1 ∧ RTp W1 T ∧ (ans = -1 → (x = 0 ∨ x = 1) ∧ Rd x M1 W1) := by
  by_cases cx : x < 0 ∨ 1 < x
  · have e0 : (x = 0) = False := out_ne (n := 1) (j := 0) (by decide) cx (by decide)
    have e1 : (x = 1) = False := out_ne (n := 1) (j := 1) (by decide) cx (by decide)
    refine ⟨-2, M, mI W 0 0 0, ?_, ?_, FrT.rf M, hT, FrZ_I W (by omega), ⟨by rw [mI_At, if_neg (by decide)]; exact hR.1, hR.2.1, hR.2.2⟩, fun z => absurd z (by decide)⟩
    · simp only [s130_0, s130_1, s130_4, s130_5, s130_8, s130_11, s130_12, s130_13, s130_14, s130_17, s130_18, s130_21, s130_24, s130_27, s130_29, nl_sti, nl_str, nl_ci, nl_cr, nl_nil, ld_cons, ld_st, lr_some, li_some, lj_some, n2_nl, n2_ci, n2_cr, n2_nil, n2_sti, n2_str, tl_some, tl_none, cat_le, List.length_cons, List.length_nil, Option.bind_some, Option.bind_none, Option.map_some, cond_true, cond_false, Bool.and_true, Bool.true_and, reduceIte, Nat.reduceEqDiff, Nat.reduceAdd, Nat.reduceLeDiff, Nat.zero_add, Nat.zero_le, Nat.zero_ne_one, Nat.one_ne_zero, Nat.reduceLT, true_or, or_true, false_or, or_false, false_and, true_and, and_false, and_true, not_false_eq_true, not_true_eq_false, eq_self, mA_A, mA_I, mI_A, mI_I, b01, b10, b01n, b10n, i10, i01, im0, ei_max, ei_min, ei_obj, n30, n20, b011, b101, orn, nor, dneg, dnle, dne, dcl, cat0, cat1, cat2, cat3, cat4, e0, e1]
    · simp only [s200_0, s200_1, s200_2, s200_5, s200_6, s200_7, s200_8, s200_9, s200_12, s200_15, s200_17, s200_18, s200_19, s200_20, s200_23, s200_24, s200_25, s200_28, s200_29, s200_32, s200_33, s200_36, s200_39, s200_40, s200_43, s200_44, s200_47, nl_sti, nl_str, nl_ci, nl_cr, nl_nil, ld_cons, ld_st, lr_some, li_some, lj_some, n2_nl, n2_ci, n2_cr, n2_nil, n2_sti, n2_str, tl_some, tl_none, cat_le, List.length_cons, List.length_nil, Option.bind_some, Option.bind_none, Option.map_some, cond_true, cond_false, Bool.and_true, Bool.true_and, reduceIte, Nat.reduceEqDiff, Nat.reduceAdd, Nat.reduceLeDiff, Nat.zero_add, Nat.zero_le, Nat.zero_ne_one, Nat.one_ne_zero, Nat.reduceLT, true_or, or_true, false_or, or_false, false_and, true_and, and_false, and_true, not_false_eq_true, not_true_eq_false, eq_self, mA_A, mA_I, mI_A, mI_I, b01, b10, b01n, b10n, i10, i01, im0, ei_max, ei_min, ei_obj, n30, n20, b011, b101, orn, nor, dneg, dnle, dne, dcl, cat0, cat1, cat2, cat3, cat4, gM0, pM0, cM, hS2, M_isIn, lt64, lt64_0a, lt64_0b, lt64_1a, lt64_1b, lt64_2a, lt64_2b, lt64_3a, lt64_3b, lt64_4a, lt64_4b, lt64_5a, lt64_5b, lt64_9a, lt64_9b, lt64_40a, lt64_40b, lt64_60a, lt64_60b, lt64_99a, lt64_99b, lt64_200a, lt64_200b, cx]
  · have cx' : (x < 0) = False ∧ (1 < x) = False := ⟨eq_false (fun z => cx (Or.inl z)), eq_false (fun z => cx (Or.inr z))⟩
    have hR0 : RTp (mI W 0 0 0) T := ⟨by rw [mI_At, if_neg (by decide)]; exact hR.1, hR.2.1, hR.2.2⟩
    obtain ⟨t, ht⟩ := nI_any ((mI W 0 0 0).1 0 11)
    have qi := qS_in (mI W 0 0 0) ht 0 (-1)
    rw [nz0] at qi
    have e10 : ((1 : Int32) = 0) = False := by decide
    obtain ⟨j, hj, rfl⟩ := in_of (n := 1) (x := x) (by decide) cx
    rcases (show j = 0 ∨ j = 1 by omega) with rfl | rfl
    · rw [show nI 0 = (0 : Int32) from rfl]
      have tC := T_row (sc := sc) (d := d + 9) h33 h34 h35 h36 hT
      have tR := M_row (sc := sc2) (d := d2 + 7) (M := M2) (t := t) hS2 hR0
      have two := rw_two T 241 (M.2.1 35) ((mI W 0 0 0).2.1 2) (M.2.1 36) ((mI W 0 0 0).2.1 4)
      have fR : ∀ W', evp sc2 (d2 + 19) 196 0 [(0, .ref a)] [] (mk sh2 (gl M2 a 15 (qS (mI W 0 0 0) 0 (-1) t))) = some (none, mk sh2 (gl M2 a 15 W')) → evp sc2 (d2 + 20) 200 0 [(0, .ref a), (1, .int 0)] [] (mk sh2 (gl M2 a 15 W)) = some (some (.int (W'.1 0 4)), mk sh2 (gl M2 a 15 W')) := fun W' tt => by
        have n0 : ((0 : Int32) < 0) = False := by decide
        have n1 : ((1 : Int32) < 0) = False := by decide
        simp (maxDischargeDepth := 9) only [s200_0, s200_1, s200_2, s200_5, s200_6, s200_7, s200_8, s200_9, s200_12, s200_15, s200_17, s200_18, s200_19, s200_20, s200_23, s200_24, s200_25, s200_28, s200_29, s200_32, s200_33, s200_36, s200_39, s200_40, s200_43, s200_44, s200_47, nl_sti, nl_str, nl_ci, nl_cr, nl_nil, ld_cons, ld_st, lr_some, li_some, lj_some, n2_nl, n2_ci, n2_cr, n2_nil, n2_sti, n2_str, tl_some, tl_none, cat_le, List.length_cons, List.length_nil, Option.bind_some, Option.bind_none, Option.map_some, cond_true, cond_false, Bool.and_true, Bool.true_and, reduceIte, Nat.reduceEqDiff, Nat.reduceAdd, Nat.reduceLeDiff, Nat.zero_add, Nat.zero_le, Nat.zero_ne_one, Nat.one_ne_zero, Nat.reduceLT, true_or, or_true, false_or, or_false, false_and, true_and, and_false, and_true, not_false_eq_true, not_true_eq_false, eq_self, mA_A, mA_I, mI_A, mI_I, b01, b10, b01n, b10n, i10, i01, im0, ei_max, ei_min, ei_obj, n30, n20, b011, b101, orn, nor, dneg, dnle, dne, dcl, cat0, cat1, cat2, cat3, cat4, gM0, pM0, gM3, pM3, gM4, pM4, cM, cM hS2, hS2, M_isIn, lt64, lt64_0a, lt64_0b, lt64_1a, lt64_1b, lt64_2a, lt64_2b, lt64_3a, lt64_3b, lt64_4a, lt64_4b, lt64_5a, lt64_5b, lt64_9a, lt64_9b, lt64_40a, lt64_40b, lt64_60a, lt64_60b, lt64_99a, lt64_99b, lt64_200a, lt64_200b, n0, n1, qi, tt]
      have fC : ∀ ans M', evp sc (d + 9 + 8 + 1 + 1) 111 0 [(0, .ref 33)] [] (mk sh M) = some (some (.int ans), mk sh M') → evp sc (d + 20) 130 0 [(0, .ref 32), (1, .int 0)] [] (mk sh M) = some (some (.int ans), mk sh M') := fun ans M' tt => by
        simp (maxDischargeDepth := 9) only [s130_0, s130_1, s130_4, s130_5, s130_8, s130_11, s130_12, s130_13, s130_14, s130_17, s130_18, s130_21, s130_24, s130_27, s130_29, nl_sti, nl_str, nl_ci, nl_cr, nl_nil, ld_cons, ld_st, lr_some, li_some, lj_some, n2_nl, n2_ci, n2_cr, n2_nil, n2_sti, n2_str, tl_some, tl_none, cat_le, List.length_cons, List.length_nil, Option.bind_some, Option.bind_none, Option.map_some, cond_true, cond_false, Bool.and_true, Bool.true_and, reduceIte, Nat.reduceEqDiff, Nat.reduceAdd, Nat.reduceLeDiff, Nat.zero_add, Nat.zero_le, Nat.zero_ne_one, Nat.one_ne_zero, Nat.reduceLT, true_or, or_true, false_or, or_false, false_and, true_and, and_false, and_true, not_false_eq_true, not_true_eq_false, eq_self, mA_A, mA_I, mI_A, mI_I, b01, b10, b01n, b10n, i10, i01, im0, ei_max, ei_min, ei_obj, n30, n20, b011, b101, orn, nor, dneg, dnle, dne, dcl, cat0, cat1, cat2, cat3, cat4, Bu_g0 hb, Tp_c h33, tt]
      cases o1 : rwP T 241 false 0 (rdf (M.2.1 35)) (M.2.1 36) T with
      | error p1 =>
        cases o2 : rwP T 241 false 0 (rdf ((mI W 0 0 0).2.1 2)) ((mI W 0 0 0).2.1 4) T with
        | error p2 =>
          rw [o1, o2] at two
          have two : p1 = p2 := two
          subst two
          rw [o1] at tC
          rw [o2] at tR
          obtain ⟨gr', gw', p', v', c', tt⟩ := tC
          obtain ⟨gr2, gw2, q', t', uu⟩ := tR
          have hp := rwP_p hT.2.1 241 false 0 _ _ T p1 (Sx.rf T) (by decide) o1
          have uu2 := fR _ uu
          rw [qS_4] at uu2
          refine ⟨nI p1, _, _, fC _ _ tt, uu2, ?_, ?_, ?_, ?_, fun z => absurd z (nI_nm1 hp)⟩
          · exact ((FrT_mR M gr' (by decide)).tr (FrT_mR _ gw' (by decide))).tr (FrT_pS _ _ _ _)
          · exact ((hT.mR (by decide)).mR (by decide)).pS _ _ _
          · exact (((FrZ_I W (by omega)).tr (FrZ_24 _ gr2 (Or.inl rfl))).tr (FrZ_24 _ gw2 (Or.inr rfl))).tr (FrZ_qS _ _ _ _)
          · exact ((hR0.mR (by decide)).mR (by decide)).qS _ _ _
        | ok q2 => rw [o1, o2] at two; exact two.elim
      | ok q1 =>
        cases o2 : rwP T 241 false 0 (rdf ((mI W 0 0 0).2.1 2)) ((mI W 0 0 0).2.1 4) T with
        | error p2 => rw [o1, o2] at two; exact two.elim
        | ok q2 =>
          obtain ⟨g1, w1, c1⟩ := q1
          obtain ⟨g2, w2, c2⟩ := q2
          rw [o1, o2] at two
          have two : RdR (g1, w1, c1) (g2, w2, c2) := two
          have ec : c1 = c2 := two.1
          subst ec
          rw [o1] at tC
          rw [o2] at tR
          obtain ⟨p', v', tt⟩ := tC
          obtain ⟨q', uu⟩ := tR
          have uu2 := fR _ uu
          rw [qS_4] at uu2
          refine ⟨-1, _, _, fC _ _ tt, uu2, ?_, ?_, ?_, ?_, fun _ => ⟨Or.inl rfl, fun _ => ⟨c1, pS_7 _ _ _ _, qS_11 _ _ _ _, ?_⟩, fun z => absurd z (by decide)⟩⟩
          · exact ((FrT_mR M g1 (by decide)).tr (FrT_mR _ w1 (by decide))).tr (FrT_pS _ _ _ _)
          · exact ((hT.mR (by decide)).mR (by decide)).pS _ _ _
          · exact (((FrZ_I W (by omega)).tr (FrZ_24 _ g2 (Or.inl rfl))).tr (FrZ_24 _ w2 (Or.inr rfl))).tr (FrZ_qS _ _ _ _)
          · exact ((hR0.mR (by decide)).mR (by decide)).qS _ _ _
          · have a1 : (mR (mR M 35 g1) 36 w1).2.1 35 = g1 := by rw [mR_o (by decide), mR_s]
            have a2 : (mR (mR M 35 g1) 36 w1).2.1 36 = w1 := mR_s _ _ _
            have a3 : (mR (mR (mI W 0 0 0) 2 g2) 4 w2).2.1 2 = g2 := by rw [mR_o (by decide), mR_s]
            have a4 : (mR (mR (mI W 0 0 0) 2 g2) 4 w2).2.1 4 = w2 := mR_s _ _ _
            show RdR ((mR (mR M 35 g1) 36 w1).2.1 35, (mR (mR M 35 g1) 36 w1).2.1 36, c1) ((mR (mR (mI W 0 0 0) 2 g2) 4 w2).2.1 2, (mR (mR (mI W 0 0 0) 2 g2) 4 w2).2.1 4, c1)
            rw [a1, a2, a3, a4]
            exact two
    · rw [show nI 1 = (1 : Int32) from rfl]
      have tC := T_script (sc := sc) (d := d + 9) h33 h34 h37 hT
      have tR := M_script (sc := sc2) (d := d2 + 8) (M := M2) (t := t) hS2 hR0
      have fR : ∀ W', evp sc2 (d2 + 19) 199 0 [(0, .ref a)] [] (mk sh2 (gl M2 a 15 (qS (mI W 0 0 0) 0 (-1) t))) = some (none, mk sh2 (gl M2 a 15 W')) → evp sc2 (d2 + 20) 200 0 [(0, .ref a), (1, .int 1)] [] (mk sh2 (gl M2 a 15 W)) = some (some (.int (W'.1 0 4)), mk sh2 (gl M2 a 15 W')) := fun W' tt => by
        have n0 : ((1 : Int32) < 0) = False := by decide
        have n1 : ((1 : Int32) < 1) = False := by decide
        simp (maxDischargeDepth := 9) only [s200_0, s200_1, s200_2, s200_5, s200_6, s200_7, s200_8, s200_9, s200_12, s200_15, s200_17, s200_18, s200_19, s200_20, s200_23, s200_24, s200_25, s200_28, s200_29, s200_32, s200_33, s200_36, s200_39, s200_40, s200_43, s200_44, s200_47, nl_sti, nl_str, nl_ci, nl_cr, nl_nil, ld_cons, ld_st, lr_some, li_some, lj_some, n2_nl, n2_ci, n2_cr, n2_nil, n2_sti, n2_str, tl_some, tl_none, cat_le, List.length_cons, List.length_nil, Option.bind_some, Option.bind_none, Option.map_some, cond_true, cond_false, Bool.and_true, Bool.true_and, reduceIte, Nat.reduceEqDiff, Nat.reduceAdd, Nat.reduceLeDiff, Nat.zero_add, Nat.zero_le, Nat.zero_ne_one, Nat.one_ne_zero, Nat.reduceLT, true_or, or_true, false_or, or_false, false_and, true_and, and_false, and_true, not_false_eq_true, not_true_eq_false, eq_self, mA_A, mA_I, mI_A, mI_I, b01, b10, b01n, b10n, i10, i01, im0, ei_max, ei_min, ei_obj, n30, n20, b011, b101, orn, nor, dneg, dnle, dne, dcl, cat0, cat1, cat2, cat3, cat4, gM0, pM0, gM3, pM3, gM4, pM4, cM, cM hS2, hS2, M_isIn, lt64, lt64_0a, lt64_0b, lt64_1a, lt64_1b, lt64_2a, lt64_2b, lt64_3a, lt64_3b, lt64_4a, lt64_4b, lt64_5a, lt64_5b, lt64_9a, lt64_9b, lt64_40a, lt64_40b, lt64_60a, lt64_60b, lt64_99a, lt64_99b, lt64_200a, lt64_200b, n0, n1, e10, qi, tt]
      have fC : ∀ ans M', evp sc (d + 9 + 8 + 1 + 1) 113 0 [(0, .ref 33)] [] (mk sh M) = some (some (.int ans), mk sh M') → evp sc (d + 20) 130 0 [(0, .ref 32), (1, .int 1)] [] (mk sh M) = some (some (.int ans), mk sh M') := fun ans M' tt => by
        simp (maxDischargeDepth := 9) only [s130_0, s130_1, s130_4, s130_5, s130_8, s130_11, s130_12, s130_13, s130_14, s130_17, s130_18, s130_21, s130_24, s130_27, s130_29, nl_sti, nl_str, nl_ci, nl_cr, nl_nil, ld_cons, ld_st, lr_some, li_some, lj_some, n2_nl, n2_ci, n2_cr, n2_nil, n2_sti, n2_str, tl_some, tl_none, cat_le, List.length_cons, List.length_nil, Option.bind_some, Option.bind_none, Option.map_some, cond_true, cond_false, Bool.and_true, Bool.true_and, reduceIte, Nat.reduceEqDiff, Nat.reduceAdd, Nat.reduceLeDiff, Nat.zero_add, Nat.zero_le, Nat.zero_ne_one, Nat.one_ne_zero, Nat.reduceLT, true_or, or_true, false_or, or_false, false_and, true_and, and_false, and_true, not_false_eq_true, not_true_eq_false, eq_self, mA_A, mA_I, mI_A, mI_I, b01, b10, b01n, b10n, i10, i01, im0, ei_max, ei_min, ei_obj, n30, n20, b011, b101, orn, nor, dneg, dnle, dne, dcl, cat0, cat1, cat2, cat3, cat4, Bu_g0 hb, Tp_c h33, e10, tt]
      cases o1 : scP T 16 0 T with
      | error p1 =>
        rw [o1] at tC tR
        obtain ⟨g', p', v', c', tt⟩ := tC
        obtain ⟨g2, h2, q', h7, h6, uu⟩ := tR
        have hp := scP_p 16 0 T p1 o1
        have uu2 := fR _ uu
        rw [qS_4] at uu2
        refine ⟨nI p1, _, _, fC _ _ tt, uu2, ?_, ?_, ?_, ?_, fun z => absurd z (nI_nm1 (by have := hT.2.1; omega))⟩
        · exact (FrT_mR M g' (by decide)).tr (FrT_pS _ _ _ _)
        · exact (hT.mR (by decide)).pS _ _ _
        · exact ((FrZ_I W (by omega)).tr (FrZ_67 _ h6 h7)).tr (FrZ_qS _ _ _ _)
        · exact ((hR0.mR (by decide)).mR (by decide)).qS _ _ _
      | ok l =>
        obtain ⟨n0, m1, m2⟩ := scP_k 16 0 T l o1
        rw [o1] at tC tR
        obtain ⟨p', v', n, n1, n2, n3, tt⟩ := tC
        obtain ⟨q', n', n1', n2', n3', uu⟩ := tR
        have en : n' = n := by omega
        have en0 : n0 = n := by omega
        subst en en0
        have uu2 := fR _ uu
        rw [qS_4] at uu2
        refine ⟨-1, _, _, fC _ _ tt, uu2, ?_, ?_, ?_, ?_, fun _ => ⟨Or.inr rfl, fun z => absurd z (by decide), fun _ => ⟨n0, n2, by omega, ?_, ?_, fun j hj => ?_, fun j hj => ?_⟩⟩⟩
        · exact (FrT_mR M _ (by decide)).tr (FrT_pS _ _ _ _)
        · exact (hT.mR (by decide)).pS _ _ _
        · exact ((FrZ_I W (by omega)).tr (FrZ_67 _ (fun j hj => wr_o _ _ _ _ (by omega)) (fun j hj => up_o (by omega)))).tr (FrZ_qS _ _ _ _)
        · exact ((hR0.mR (by decide)).mR (by decide)).qS _ _ _
        · rw [pS_7, Nat.zero_add]
        · rw [qS_A, mR_s, up_s, Nat.zero_add]
        · rw [pS_A, qS_A, mR_s, mR_o (by decide), mR_s]
          have a1 := wr_get l (M.2.1 37) (5 * 0) j (by omega)
          have a2 := wr_get l ((mI W 0 0 0).2.1 6) (320 + 5 * 0) j (by omega)
          rw [Nat.mul_zero, Nat.zero_add] at a1
          rw [Nat.mul_zero, Nat.add_zero] at a2
          rw [Nat.mul_zero, Nat.add_zero, a1, a2]
        · obtain ⟨kd, k1, k2⟩ := m2 j hj
          refine ⟨kd, by omega, ?_⟩
          have a1 := wr_get l (M.2.1 37) (5 * 0) (5 * j) (by omega)
          rw [Nat.mul_zero, Nat.zero_add] at a1
          rw [pS_A, mR_s, Nat.mul_zero, a1, k2]
theorem V_fault : Cal sc (d + 80) 130 200 [(1, .int x)] := fun sh M B h hB => Cal_two h.mod (fun sh2 M2 hS2 => by
  have h' : IP sh M (lc M 111) B := h
  obtain ⟨F, kk, ⟨h1, hz⟩, hTp, -⟩ := h'
  obtain ⟨T, hC, hR⟩ := Tp_T hTp
  obtain ⟨z1, z2, z3, z4, z5, z6, z7, z8, z9, z10, z11, z12⟩ := h1
  obtain ⟨ans, M1, W1, t1, t2, f1, f2, f3, f4, -⟩ := Q_fault (sc := sc) (sc2 := sc) (d := d + 60) (d2 := d + 60) (M2 := M2) (x := x) z1 z7 z8 z9 z10 z11 hS2 hC hR
  exact ⟨ans, sh, M1, W1, t1, t2, f1.sm (by decide), IP.tp h f1 f3 (T_Tp f2 f4) (by omega)⟩)
end
