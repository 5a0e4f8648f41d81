/-! TEXT as a call -/
theorem RI_lg0 {R : aM} {f f0 : Nat → Int32} {n dl bal lv t B : Nat} {wl : Nat → List Sg} {al : List (Nat → Int32)} {Ln : Nat → List (Option Se)} (h : RI R f n dl bal lv t B wl al (f0, [], f0) Ln) : RI R f n dl bal lv t B wl al (f, [], f) Ln := by
  obtain ⟨a1, a3, a4, a5, a6, a7, a8, a9, b⟩ := h
  refine ⟨a1, a3, a4, a5, a6, a7, a8, ?_, b⟩
  obtain ⟨⟨st, s1, s2, s3, s4, s5, s6, s7, s8⟩, c⟩ := a9
  have c0 := c 0 (by decide)
  exact ⟨⟨st, s1, s2, s3, s4, s5, s6, c0.trans s7, fun j x hx => by cases hx⟩, fun _ _ => rfl⟩
theorem Bnd.nat {lo hi : Nat → Nat} {n : Nat} {g : Nat → Int32} (h : Bnd lo hi n 0 g) (hh : ∀ i, hi i < 1000) : ∀ i, i < n → g i = nI (g i).toNatClampNeg ∧ lo i ≤ (g i).toNatClampNeg ∧ (g i).toNatClampNeg ≤ hi i := fun i hi' => by
  obtain ⟨x, x1, x2, x3⟩ := h i hi'
  rw [Nat.zero_add] at x3
  have hx := hh i
  have e : (g i).toNatClampNeg = x := by rw [x3]; exact cl_nI (show x < 1000 by omega) (by decide)
  rw [e]
  exact ⟨x3, x1, x2⟩
section
variable {sc : aS} {d : Nat} {x : Int32}
set_option maxRecDepth 20000 in
theorem V_text : Cal sc (d + 80) 131 202 [(1, .int x)] := fun sh M B h hB => Cal_two h.mod (fun sh2 M2 hS2 => by
  have h' : IP sh M (lc M 111) B := h
  obtain ⟨F, kk, ⟨h1, hz⟩, hTp, hSc, hst4, h75, h41, hG, ⟨st2, hst, h18⟩, hk⟩ := h'.ex
  obtain ⟨T, hC, hR⟩ := Tp_T hTp
  have h1' := h1
  obtain ⟨z1, z2, z3, z4, z5, z6, z7, z8, z9, z10, z11, z12, z13, z14, z15, z16⟩ := h1
  have hRm : RTp (mI (lc M 111) 0 0 0) T := ⟨by rw [mI_At, if_neg (by decide)]; exact hR.1, hR.2.1, hR.2.2⟩
  obtain ⟨ans, M1, W1, t1, t2, f1, f2, f3, f4, f5⟩ := Q_fault (sc := sc) (sc2 := sc) (d := d + 59) (d2 := d + 59) (M2 := M2) (x := x) z1 z7 z8 z9 z10 z11 hS2 hC hRm
  have fz : FrZ (lc M 111) (mI (lc M 111) 0 0 0) := FrZ_I _ (by omega)
  obtain ⟨m, hm4, hmC, hmR, hsc⟩ := hSc
  have hmR0 : (mI (lc M 111) 0 0 0).1 0 13 = nI m := by rw [mI_At, if_neg (by decide)]; exact hmR
  have hm1 : M1.1 38 2 = nI m := by rw [(f1.1 38 (by decide)).1]; exact hmC
  -- the class when there is a fault
  have clsN : ¬ ans = -1 → evp sc (d + 80) 131 0 [(0, .ref 32), (1, .int x)] [] (mk sh M) = some (some (.int (-1)), mk sh M1) := fun ca => by
    have ca' : (ans = -1) = False := eq_false ca
    simp (maxDischargeDepth := 9) only [s131_0, s131_1, s131_2, s131_5, s131_6, s131_9, s131_10, nl_sti, nl_str, nl_ci, nl_cr, nl_nil, ld_cons, ld_st, lr_some, li_some, lj_some, n2_nl, n2_ci, n2_cr, n2_nil, n2_sti, n2_str, tl_some, tl_none, cat_le, List.length_cons, List.length_nil, Option.bind_some, Option.bind_none, Option.map_some, cond_true, cond_false, Bool.and_true, Bool.true_and, reduceIte, Nat.reduceEqDiff, Nat.reduceAdd, Nat.reduceLeDiff, Nat.zero_add, Nat.zero_le, Nat.zero_ne_one, Nat.one_ne_zero, Nat.reduceLT, true_or, or_true, false_or, or_false, false_and, true_and, and_false, and_true, not_false_eq_true, not_true_eq_false, eq_self, mA_A, mA_I, mI_A, mI_I, b01, b10, b01n, b10n, i10, i01, im0, ei_max, ei_min, ei_obj, n30, n20, b011, b101, orn, nor, dneg, dnle, dne, dcl, cat0, cat1, cat2, cat3, cat4, Bu_c z1, t1, ca']
  have fin0 : IP sh M1 (mI (lc M 111) 0 0 0) (B + 1000000) := IP.tp h f1 fz (T_Tp f2 hRm) (by omega)
  have fin1 : IP sh M1 W1 (B + 1000000) := IP.tp h f1 (fz.tr f3) (T_Tp f2 f4) (by omega)
  by_cases cx : x < 0 ∨ 1 < x
  · have ca : ¬ ans = -1 := fun z => by
      rcases (f5 z).1 with e | e <;> rw [e] at cx <;> exact absurd cx (by decide)
    refine ⟨-1, sh, M1, mI (lc M 111) 0 0 0, clsN ca, ?_, f1.sm (by decide), fin0⟩
    simp only [s202_0, s202_1, s202_2, s202_5, s202_6, s202_7, s202_8, s202_9, s202_12, s202_15, s202_16, s202_17, s202_20, s202_21, s202_24, s202_25, s202_28, s202_29, s202_30, s202_33, s202_34, s202_37, s202_38, s202_39, s202_40, s202_41, s202_44, s202_45, s202_46, s202_49, s202_51, s202_52, s202_53, s202_54, s202_55, s202_56, s202_59, s202_60, s202_63, s202_64, s202_65, s202_68, s202_69, s202_70, s202_71, s202_72, s202_75, s202_76, s202_77, s202_78, s202_79, s202_80, s202_81, s202_82, s202_85, s202_88, s202_89, s202_92, s202_93, s202_96, s202_97, s202_100, s202_101, s202_102, s202_103, s202_104, s202_104r, s202_105, s202_108, s202_109, s202_110, s202_113, s202_114, s202_117, s202_118, s202_119, s202_120, s202_121, s202_124, s202_125, s202_128, nl_sti, nl_str, nl_ci, nl_cr, nl_nil, ld_cons, ld_st, lr_some, li_some, lj_some, n2_nl, n2_ci, n2_cr, n2_nil, n2_sti, n2_str, tl_some, tl_none, cat_le, List.length_cons, List.length_nil, Option.bind_some, Option.bind_none, Option.map_some, cond_true, cond_false, Bool.and_true, Bool.true_and, reduceIte, Nat.reduceEqDiff, Nat.reduceAdd, Nat.reduceLeDiff, Nat.zero_add, Nat.zero_le, Nat.zero_ne_one, Nat.one_ne_zero, Nat.reduceLT, true_or, or_true, false_or, or_false, false_and, true_and, and_false, and_true, not_false_eq_true, not_true_eq_false, eq_self, mA_A, mA_I, mI_A, mI_I, b01, b10, b01n, b10n, i10, i01, im0, ei_max, ei_min, ei_obj, n30, n20, b011, b101, orn, nor, dneg, dnle, dne, dcl, cat0, cat1, cat2, cat3, cat4, gM0, pM0, cM, hS2, M_isIn, lt64, lt64_0a, lt64_0b, lt64_1a, lt64_1b, lt64_2a, lt64_2b, lt64_3a, lt64_3b, lt64_4a, lt64_4b, lt64_5a, lt64_5b, lt64_9a, lt64_9b, lt64_40a, lt64_40b, lt64_60a, lt64_60b, lt64_99a, lt64_99b, lt64_200a, lt64_200b, cx]
  · have cx' : (x < 0) = False ∧ (1 < x) = False := ⟨eq_false (fun z => cx (Or.inl z)), eq_false (fun z => cx (Or.inr z))⟩
    -- the reference up to its fault
    have refN : x = 1 → m = 4 → evp sc (d + 80) 202 0 [(0, .ref 111), (1, .int x)] [] (mk sh2 (gl M2 111 15 (lc M 111))) = some (some (.int (-1)), mk sh2 (gl M2 111 15 (mI (lc M 111) 0 0 0))) := fun e1 e4 => by
      have e11 : (x = 1) = True := eq_true e1
      have e44 : (nI m = 4) = True := eq_true (by rw [e4]; rfl)
      have hmR1 : (lc M 111).1 0 13 = nI m := hmR
      simp (maxDischargeDepth := 9) only [s202_0, s202_1, s202_2, s202_5, s202_6, s202_7, s202_8, s202_9, s202_12, s202_15, s202_16, s202_17, s202_20, s202_21, s202_24, s202_25, s202_37, s202_38, nl_sti, nl_str, nl_ci, nl_cr, nl_nil, ld_cons, ld_st, lr_some, li_some, lj_some, n2_nl, n2_ci, n2_cr, n2_nil, n2_sti, n2_str, tl_some, tl_none, cat_le, List.length_cons, List.length_nil, Option.bind_some, Option.bind_none, Option.map_some, cond_true, cond_false, Bool.and_true, Bool.true_and, reduceIte, Nat.reduceEqDiff, Nat.reduceAdd, Nat.reduceLeDiff, Nat.zero_add, Nat.zero_le, Nat.zero_ne_one, Nat.one_ne_zero, Nat.reduceLT, true_or, or_true, false_or, or_false, false_and, true_and, and_false, and_true, not_false_eq_true, not_true_eq_false, eq_self, mA_A, mA_I, mI_A, mI_I, b01, b10, b01n, b10n, i10, i01, im0, ei_max, ei_min, ei_obj, n30, n20, b011, b101, orn, nor, dneg, dnle, dne, dcl, cat0, cat1, cat2, cat3, cat4, gM0, pM0, gM13, pM13, cM, cM hS2, hS2, M_isIn, lt64, lt64_0a, lt64_0b, lt64_1a, lt64_1b, lt64_2a, lt64_2b, lt64_3a, lt64_3b, lt64_4a, lt64_4b, lt64_5a, lt64_5b, lt64_9a, lt64_9b, lt64_40a, lt64_40b, lt64_60a, lt64_60b, lt64_99a, lt64_99b, lt64_200a, lt64_200b, cx', e11, hmR0, hmR1, e44]
    have refY : ¬ (x = 1 ∧ m = 4) → evp sc (d + 80) 202 0 [(0, .ref 111), (1, .int x)] [] (mk sh2 (gl M2 111 15 (lc M 111))) = if ans = -1 then evp sc (d + 80) 202 39 [(0, .ref 111), (1, .int x)] [] (mk sh2 (gl M2 111 15 W1)) else some (some (.int (-1)), mk sh2 (gl M2 111 15 W1)) := fun ne => by
      have hmR1 : (lc M 111).1 0 13 = nI m := hmR
      by_cases e1 : x = 1
      · have e11 : (x = 1) = True := eq_true e1
        have e44 : (nI m = 4) = False := eq_false (fun z => ne ⟨e1, (nI_eq (b := 4) (by omega) (by decide)).mp z⟩)
        simp (maxDischargeDepth := 9) only [s202_0, s202_1, s202_2, s202_5, s202_6, s202_7, s202_8, s202_9, s202_12, s202_15, s202_16, s202_17, s202_20, s202_21, s202_24, s202_25, s202_28, s202_29, s202_30, s202_33, s202_34, s202_37, s202_38, nl_sti, nl_str, nl_ci, nl_cr, nl_nil, ld_cons, ld_st, lr_some, li_some, lj_some, n2_nl, n2_ci, n2_cr, n2_nil, n2_sti, n2_str, tl_some, tl_none, cat_le, List.length_cons, List.length_nil, Option.bind_some, Option.bind_none, Option.map_some, cond_true, cond_false, Bool.and_true, Bool.true_and, reduceIte, Nat.reduceEqDiff, Nat.reduceAdd, Nat.reduceLeDiff, Nat.zero_add, Nat.zero_le, Nat.zero_ne_one, Nat.one_ne_zero, Nat.reduceLT, true_or, or_true, false_or, or_false, false_and, true_and, and_false, and_true, not_false_eq_true, not_true_eq_false, eq_self, mA_A, mA_I, mI_A, mI_I, b01, b10, b01n, b10n, i10, i01, im0, ei_max, ei_min, ei_obj, n30, n20, b011, b101, orn, nor, dneg, dnle, dne, dcl, cat0, cat1, cat2, cat3, cat4, gM0, pM0, gM13, pM13, cM, cM hS2, hS2, M_isIn, lt64, lt64_0a, lt64_0b, lt64_1a, lt64_1b, lt64_2a, lt64_2b, lt64_3a, lt64_3b, lt64_4a, lt64_4b, lt64_5a, lt64_5b, lt64_9a, lt64_9b, lt64_40a, lt64_40b, lt64_60a, lt64_60b, lt64_99a, lt64_99b, lt64_200a, lt64_200b, cx', e11, hmR0, hmR1, e44, t2]
      · have e11 : (x = 1) = False := eq_false e1
        simp (maxDischargeDepth := 9) only [s202_0, s202_1, s202_2, s202_5, s202_6, s202_7, s202_8, s202_9, s202_12, s202_15, s202_16, s202_17, s202_28, s202_29, s202_30, s202_33, s202_34, s202_37, s202_38, nl_sti, nl_str, nl_ci, nl_cr, nl_nil, ld_cons, ld_st, lr_some, li_some, lj_some, n2_nl, n2_ci, n2_cr, n2_nil, n2_sti, n2_str, tl_some, tl_none, cat_le, List.length_cons, List.length_nil, Option.bind_some, Option.bind_none, Option.map_some, cond_true, cond_false, Bool.and_true, Bool.true_and, reduceIte, Nat.reduceEqDiff, Nat.reduceAdd, Nat.reduceLeDiff, Nat.zero_add, Nat.zero_le, Nat.zero_ne_one, Nat.one_ne_zero, Nat.reduceLT, true_or, or_true, false_or, or_false, false_and, true_and, and_false, and_true, not_false_eq_true, not_true_eq_false, eq_self, mA_A, mA_I, mI_A, mI_I, b01, b10, b01n, b10n, i10, i01, im0, ei_max, ei_min, ei_obj, n30, n20, b011, b101, orn, nor, dneg, dnle, dne, dcl, cat0, cat1, cat2, cat3, cat4, gM0, pM0, gM13, pM13, cM, cM hS2, hS2, M_isIn, lt64, lt64_0a, lt64_0b, lt64_1a, lt64_1b, lt64_2a, lt64_2b, lt64_3a, lt64_3b, lt64_4a, lt64_4b, lt64_5a, lt64_5b, lt64_9a, lt64_9b, lt64_40a, lt64_40b, lt64_60a, lt64_60b, lt64_99a, lt64_99b, lt64_200a, lt64_200b, cx', e11, t2]
    by_cases ca : ans = -1
    · obtain ⟨hx, hrd⟩ := f5 ca
      subst ca
      by_cases e1 : x = 1
      · subst e1
        obtain ⟨q, q1, q16, qC, qR, qe, qk⟩ := hrd.2 rfl
        have cls1 : ∀ v M', evp sc (d + 79) 132 0 [(0, .ref 32)] [] (mk sh M1) = some (some (.int v), mk sh M') → evp sc (d + 80) 131 0 [(0, .ref 32), (1, .int 1)] [] (mk sh M) = some (some (.int v), mk sh M') := fun v M' tt => by
          simp (maxDischargeDepth := 9) only [s131_0, s131_1, s131_2, s131_5, s131_6, s131_11, s131_12, s131_13, s131_16, s131_17, s131_20, nl_sti, nl_str, nl_ci, nl_cr, nl_nil, ld_cons, ld_st, lr_some, li_some, lj_some, n2_nl, n2_ci, n2_cr, n2_nil, n2_sti, n2_str, tl_some, tl_none, cat_le, List.length_cons, List.length_nil, Option.bind_some, Option.bind_none, Option.map_some, cond_true, cond_false, Bool.and_true, Bool.true_and, reduceIte, Nat.reduceEqDiff, Nat.reduceAdd, Nat.reduceLeDiff, Nat.zero_add, Nat.zero_le, Nat.zero_ne_one, Nat.one_ne_zero, Nat.reduceLT, true_or, or_true, false_or, or_false, false_and, true_and, and_false, and_true, not_false_eq_true, not_true_eq_false, eq_self, mA_A, mA_I, mI_A, mI_I, b01, b10, b01n, b10n, i10, i01, im0, ei_max, ei_min, ei_obj, n30, n20, b011, b101, orn, nor, dneg, dnle, dne, dcl, cat0, cat1, cat2, cat3, cat4, Bu_c z1, t1, tt]
        by_cases e4 : m = 4
        · subst e4
          have tk := T_take4 (sc := sc) (d := d + 77) z1 z7 z12 hm1 qC
          exact ⟨-1, sh, M1, _, cls1 _ _ tk, refN rfl rfl, f1.sm (by decide), fin0⟩
        · have hm3 : m < 4 := by omega
          have tk := T_take (sc := sc) (d := d + 77) z1 z7 z11 z12 z13 z14 hm3 hm1 qC f2.1 f2.2.1
          have hmR1 : W1.1 0 13 = nI m := by rw [f3.1 13 (by omega)]; exact hmR0
          have rr := M_take (sc := sc) (d := d + 80) (M := M2) (a := 111) hS2 hm3 hmR1 qR [(0, .ref 111), (1, .int 1)] (by simp (maxDischargeDepth := 9) only [nl_sti, nl_str, nl_ci, nl_cr, nl_nil, ld_cons, ld_st, lr_some, li_some, lj_some, n2_nl, n2_ci, n2_cr, n2_nil, n2_sti, n2_str, tl_some, tl_none, cat_le, List.length_cons, List.length_nil, Option.bind_some, Option.bind_none, Option.map_some, cond_true, cond_false, Bool.and_true, Bool.true_and, reduceIte, Nat.reduceEqDiff, Nat.reduceAdd, Nat.reduceLeDiff, Nat.zero_add, Nat.zero_le, Nat.zero_ne_one, Nat.one_ne_zero, Nat.reduceLT, true_or, or_true, false_or, or_false, false_and, true_and, and_false, and_true, not_false_eq_true, not_true_eq_false, eq_self, mA_A, mA_I, mI_A, mI_I, b01, b10, b01n, b10n, i10, i01, im0, ei_max, ei_min, ei_obj, n30, n20, nl_cj]) (by simp only [nl_sti, nl_str, nl_ci, nl_cr, nl_nil, ld_cons, ld_st, lr_some, li_some, lj_some, n2_nl, n2_ci, n2_cr, n2_nil, n2_sti, n2_str, tl_some, tl_none, cat_le, List.length_cons, List.length_nil, Option.bind_some, Option.bind_none, Option.map_some, cond_true, cond_false, Bool.and_true, Bool.true_and, reduceIte, Nat.reduceEqDiff, Nat.reduceAdd, Nat.reduceLeDiff, Nat.zero_add, Nat.zero_le, Nat.zero_ne_one, Nat.one_ne_zero, Nat.reduceLT, true_or, or_true, false_or, or_false, false_and, true_and, and_false, and_true, not_false_eq_true, not_true_eq_false, eq_self, mA_A, mA_I, mI_A, mI_I, b01, b10, b01n, b10n, i10, i01, im0, ei_max, ei_min, ei_obj, n30, n20]) (by simp only [nl_sti, nl_str, nl_ci, nl_cr, nl_nil, ld_cons, ld_st, lr_some, li_some, lj_some, n2_nl, n2_ci, n2_cr, n2_nil, n2_sti, n2_str, tl_some, tl_none, cat_le, List.length_cons, List.length_nil, Option.bind_some, Option.bind_none, Option.map_some, cond_true, cond_false, Bool.and_true, Bool.true_and, reduceIte, Nat.reduceEqDiff, Nat.reduceAdd, Nat.reduceLeDiff, Nat.zero_add, Nat.zero_le, Nat.zero_ne_one, Nat.one_ne_zero, Nat.reduceLT, true_or, or_true, false_or, or_false, false_and, true_and, and_false, and_true, not_false_eq_true, not_true_eq_false, eq_self, mA_A, mA_I, mI_A, mI_I, b01, b10, b01n, b10n, i10, i01, im0, ei_max, ei_min, ei_obj, n30, n20])
          have ry := refY (fun z => e4 z.2)
          rw [if_pos rfl] at ry
          refine ⟨nI m, sh, tkM M1 m q, tkW W1 m q, cls1 _ _ tk, ry.trans rr, ?_, ?_⟩
          · intro y p1 p2
            unfold tkM
            rw [mI_o (by omega), mI_o (by omega)]
            exact ⟨(f1.1 y (by omega)).1, by rw [mI_A, mI_A, mA_o (by omega), mR_o (by omega)]; exact (f1.1 y (by omega)).2⟩
          · refine IP.ts (M' := tkM M1 m q) (W' := tkW W1 m q) fin1 (fun y hy => ?_) ?_ (fun j hj => ?_) (fun k hk => ?_) ?_ ?_ (Nat.le_refl _)
            · unfold tkM
              rw [mI_o (by omega), mI_o (by omega)]
              exact ⟨rfl, by rw [mI_A, mI_A, mA_o (by omega), mR_o (by omega)]⟩
            · unfold tkM
              rw [mI_o (by decide), mI_o (by decide)]
              rfl
            · unfold tkW
              rw [mI_At, if_neg (by omega)]
              show (mI W1 0 2 0).1 0 j = W1.1 0 j
              rw [mI_At, if_neg (by omega)]
            · unfold tkW
              rw [mI_A, mR_o (by omega), mR_o (by omega)]
              rfl
            · refine ⟨0, by decide, ?_, ?_, fun i hi => absurd hi (Nat.not_lt_zero i)⟩
              · unfold tkM
                rw [mI_At, if_pos rfl]
                rfl
              · unfold tkW
                rw [mI_At, if_neg (by decide)]
                show (mI W1 0 2 0).1 0 2 = _
                rw [mI_At, if_pos rfl]
                rfl
            · refine ⟨m + 1, by omega, ?_, ?_, fun i hi => ?_⟩
              · unfold tkM
                rw [mI_o (by decide), mI_At, if_pos rfl]
              · unfold tkW
                rw [mI_At, if_pos rfl]
              · have a39 : (tkM M1 m q).2.1 39 = va_cpy (M1.2.1 37) (M1.2.1 39) 0 (m * 80) 80 := by
                  unfold tkM
                  rw [mI_A, mI_A, mA_o (by decide), mR_s]
                have a40 : (tkM M1 m q).2.1 40 = up (M1.2.1 40) m (nI q) := by
                  unfold tkM
                  rw [mI_A, mI_A, mA_up, mR_o (by decide)]
                have b6 : (tkW W1 m q).2.1 6 = fun j => if 80 * m ≤ j ∧ j < 80 * m + 80 then W1.2.1 6 (320 + (j - 80 * m)) else W1.2.1 6 j := by
                  unfold tkW
                  rw [mI_A, mR_o (by decide), mR_s]
                have b7 : (tkW W1 m q).2.1 7 = up (W1.2.1 7) m (nI q) := by
                  unfold tkW
                  rw [mI_A, mR_s]
                rw [a39, a40, b6, b7]
                by_cases ei : i = m
                · subst ei
                  refine ⟨q, q1, q16, up_s _ _ _, up_s _ _ _, fun j hj => ?_, fun j hj => ?_⟩
                  · show (if i * 80 ≤ 80 * i + j ∧ 80 * i + j < i * 80 + 80 then M1.2.1 37 (0 + (80 * i + j - i * 80)) else _) = if 80 * i ≤ 80 * i + j ∧ 80 * i + j < 80 * i + 80 then _ else _
                    rw [if_pos (by omega), if_pos (by omega), show 0 + (80 * i + j - i * 80) = j by omega, show 320 + (80 * i + j - 80 * i) = 320 + j by omega]
                    exact qe j hj
                  · obtain ⟨k, k1, k2⟩ := qk j hj
                    refine ⟨k, k1, ?_⟩
                    show (if i * 80 ≤ 80 * i + 5 * j ∧ 80 * i + 5 * j < i * 80 + 80 then M1.2.1 37 (0 + (80 * i + 5 * j - i * 80)) else _) = _
                    rw [if_pos (by omega), show 0 + (80 * i + 5 * j - i * 80) = 5 * j by omega]
                    exact k2
                · have him : i < m := by omega
                  obtain ⟨p, p1, p2, p3, p4, p5, p6⟩ := hsc i him
                  have fy := fz.tr f3
                  refine ⟨p, p1, p2, ?_, ?_, fun j hj => ?_, fun j hj => ?_⟩
                  · rw [up_o ei, (f1.1 40 (by decide)).2]; exact p3
                  · rw [up_o ei, fy.2.2.2 i (by omega)]; exact p4
                  · show (if m * 80 ≤ 80 * i + j ∧ 80 * i + j < m * 80 + 80 then _ else M1.2.1 39 (80 * i + j)) = if 80 * m ≤ 80 * i + j ∧ 80 * i + j < 80 * m + 80 then _ else W1.2.1 6 (80 * i + j)
                    rw [if_neg (by omega), if_neg (by omega), (f1.1 39 (by decide)).2, fy.2.2.1 _ (by omega)]
                    exact p5 j hj
                  · obtain ⟨k, k1, k2⟩ := p6 j hj
                    refine ⟨k, k1, ?_⟩
                    show (if m * 80 ≤ 80 * i + 5 * j ∧ 80 * i + 5 * j < m * 80 + 80 then _ else M1.2.1 39 (80 * i + 5 * j)) = _
                    rw [if_neg (by omega), (f1.1 39 (by decide)).2]
                    exact k2
      · have e0 : x = 0 := hx.elim id (fun z => absurd z e1)
        subst e0
        obtain ⟨cl, qC, qR, -, hcl8, r5, r4, rB, rW⟩ := hrd.1 rfl
        have hcl8 : cl ≤ 8 := hcl8
        have r5 : ∀ j, j < 5 → M1.2.1 35 j = W1.2.1 2 j := r5
        have r4 : ∀ j, j < 4 * cl → M1.2.1 36 j = W1.2.1 4 j := r4
        have bn := rB.nat (by
          intro i
          unfold rhi
          match i with
          | 0 => decide
          | 1 => decide
          | 2 => decide
          | 3 => decide
          | 4 => decide
          | i + 5 => exact (by decide : (0 : Nat) < 1000))
        have bn : ∀ i, i < 5 → M1.2.1 35 i = nI (M1.2.1 35 i).toNatClampNeg ∧ rlo i ≤ (M1.2.1 35 i).toNatClampNeg ∧ (M1.2.1 35 i).toNatClampNeg ≤ rhi i := bn
        have hn2 : 2 ≤ (M1.2.1 35 0).toNatClampNeg := (bn 0 (by decide)).2.1
        have hn8 : (M1.2.1 35 0).toNatClampNeg ≤ 8 := (bn 0 (by decide)).2.2
        have hdl3 : (M1.2.1 35 1).toNatClampNeg ≤ 3 := (bn 1 (by decide)).2.2
        have hba9 : (M1.2.1 35 2).toNatClampNeg ≤ 9 := (bn 2 (by decide)).2.2
        have hlv1 : 1 ≤ (M1.2.1 35 3).toNatClampNeg := (bn 3 (by decide)).2.1
        have hlv3 : (M1.2.1 35 3).toNatClampNeg ≤ 3 := (bn 3 (by decide)).2.2
        have w2 : ∀ j, j < 5 → W1.2.1 2 j = nI (M1.2.1 35 j).toNatClampNeg := fun j hj => (r5 j hj).symm.trans (bn j hj).1
        have h41' : TdC (lc M1 41) := (f1.sm (b := 41) (n := 31) (by decide)).td h41
        -- the class begins
        obtain ⟨R1, tb, hbe, htd⟩ := R_begin (sc := sc) (d := d + 78) (M := M1) (R := lc M1 41) (A := 35) (ru := fun j => (M1.2.1 35 j).toNatClampNeg) z2 (fun R j hj => by
          rw [ia_mk z9, cl_nI hj (by decide), if_pos (fun z => z.elim (nI_pos (by omega)) (by omega)), gl_Ao (by decide)]
          exact congrArg some (bn j hj).1) h41'
        rw [gl_lc] at tb
        -- the reference begins
        obtain ⟨L2, ub, l20, l21, l22⟩ := M_beginsT (sc := sc) (d := d + 79) (M := M2) (W := mI W1 0 2 0) (a := 111) hS2
        have hRI := RI_beg (B := 0) hbe htd (f := bgF (mI W1 0 2 0)) (fun j hj => by
          unfold bgF up
          by_cases q : j = 1551
          · rw [if_pos q, if_pos q]
            show W1.2.1 2 4 &&& ((1 <<< (W1.2.1 2 0 &&& 31)) - 1) = _
            rw [w2 4 (by decide), w2 0 (by decide)]
          · rw [if_neg q, if_neg q]
            exact if_pos hj) hn2 hn8 hdl3 hba9 hlv1 hlv3
        have g3 : (bgW (mI W1 0 2 0)).2.1 3 = rg3 (mI W1 0 2 0) := by
          unfold bgW
          rw [mI_A, mI_A, mI_A, mR_s]
        have g3v : ∀ j, j < 5 → (bgW (mI W1 0 2 0)).2.1 3 j = nI (M1.2.1 35 j).toNatClampNeg := fun j hj => by
          rw [g3]
          show (if j < 5 then W1.2.1 2 j else _) = _
          rw [if_pos hj, w2 j hj]
        have g12 : (bgW (mI W1 0 2 0)).1 0 12 = nI (M1.2.1 35 0).toNatClampNeg := by
          unfold bgW
          rw [mI_At, if_neg (by decide), mI_At, if_neg (by decide), mI_At, if_pos rfl]
          exact w2 0 (by decide)
        have hcW : cW (bgW (mI W1 0 2 0)) (M1.2.1 35 0).toNatClampNeg (M1.2.1 35 1).toNatClampNeg (M1.2.1 35 2).toNatClampNeg (M1.2.1 35 3).toNatClampNeg := ⟨g12, g3v 1 (by decide), g3v 2 (by decide), g3v 3 (by decide)⟩
        have gj : ∀ j, ¬ j = 12 → ¬ j = 19 → ¬ j = 20 → ¬ j = 2 → (bgW (mI W1 0 2 0)).1 0 j = W1.1 0 j := fun j p1 p2 p3 p4 => by
          unfold bgW
          rw [mI_At, if_neg p3, mI_At, if_neg p2, mI_At, if_neg p1]
          show (mI W1 0 2 0).1 0 j = W1.1 0 j
          rw [mI_At, if_neg p4]
        have gA : ∀ k, ¬ k = 3 → (bgW (mI W1 0 2 0)).2.1 k = W1.2.1 k := fun k hk => by
          unfold bgW
          rw [mI_A, mI_A, mI_A, mR_o hk]
          rfl
        obtain ⟨R2, fF, W2, wl2, L3, v1, v2, v3, v4, v5, v6, v7⟩ := Tx_loop (sc := sc) (sc2 := sc) (d := d + 75) (d2 := d + 74) (M := M1) (M2 := M2) (a2 := 111) z1 z2 z7 z10 hS2 hcl8 qC cl 0 R1 (bgW (mI W1 0 2 0)) (bgF (mI W1 0 2 0)) 0 (fun _ => []) (e_st1 [(0, .ref 32), (1, .int 0)] 2 (.int 0)) L2 (by omega) hRI hcW (by rw [gj 11 (by decide) (by decide) (by decide) (by decide)]; exact qR) (fun j hj => by rw [gA 4 (by decide)]; exact r4 j hj) (by omega) (by simp (maxDischargeDepth := 9) only [nl_sti, nl_str, nl_ci, nl_cr, nl_nil, ld_cons, ld_st, lr_some, li_some, lj_some, n2_nl, n2_ci, n2_cr, n2_nil, n2_sti, n2_str, tl_some, tl_none, cat_le, List.length_cons, List.length_nil, Option.bind_some, Option.bind_none, Option.map_some, cond_true, cond_false, Bool.and_true, Bool.true_and, reduceIte, Nat.reduceEqDiff, Nat.reduceAdd, Nat.reduceLeDiff, Nat.zero_add, Nat.zero_le, Nat.zero_ne_one, Nat.one_ne_zero, Nat.reduceLT, true_or, or_true, false_or, or_false, false_and, true_and, and_false, and_true, not_false_eq_true, not_true_eq_false, eq_self, mA_A, mA_I, mI_A, mI_I, b01, b10, b01n, b10n, i10, i01, im0, ei_max, ei_min, ei_obj, n30, n20, nl_cj]) (by simp only [nl_sti, nl_str, nl_ci, nl_cr, nl_nil, ld_cons, ld_st, lr_some, li_some, lj_some, n2_nl, n2_ci, n2_cr, n2_nil, n2_sti, n2_str, tl_some, tl_none, cat_le, List.length_cons, List.length_nil, Option.bind_some, Option.bind_none, Option.map_some, cond_true, cond_false, Bool.and_true, Bool.true_and, reduceIte, Nat.reduceEqDiff, Nat.reduceAdd, Nat.reduceLeDiff, Nat.zero_add, Nat.zero_le, Nat.zero_ne_one, Nat.one_ne_zero, Nat.reduceLT, true_or, or_true, false_or, or_false, false_and, true_and, and_false, and_true, not_false_eq_true, not_true_eq_false, eq_self, mA_A, mA_I, mI_A, mI_I, b01, b10, b01n, b10n, i10, i01, im0, ei_max, ei_min, ei_obj, n30, n20]) (by simp only [nl_sti, nl_str, nl_ci, nl_cr, nl_nil, ld_cons, ld_st, lr_some, li_some, lj_some, n2_nl, n2_ci, n2_cr, n2_nil, n2_sti, n2_str, tl_some, tl_none, cat_le, List.length_cons, List.length_nil, Option.bind_some, Option.bind_none, Option.map_some, cond_true, cond_false, Bool.and_true, Bool.true_and, reduceIte, Nat.reduceEqDiff, Nat.reduceAdd, Nat.reduceLeDiff, Nat.zero_add, Nat.zero_le, Nat.zero_ne_one, Nat.one_ne_zero, Nat.reduceLT, true_or, or_true, false_or, or_false, false_and, true_and, and_false, and_true, not_false_eq_true, not_true_eq_false, eq_self, mA_A, mA_I, mI_A, mI_I, b01, b10, b01n, b10n, i10, i01, im0, ei_max, ei_min, ei_obj, n30, n20, nz0]) l20 l21 (by rw [l22, nz0])
        have hn0 : R2.1 0 0 = nI (M1.2.1 35 0).toNatClampNeg := v5.1.1.1
        have sz4 : ∀ X : aM, (gl M1 41 31 X).1 33 4 = nI T.length := fun X => by rw [gl33]; exact f2.1
        have tl0 : ((0 : Int32) ≤ nI T.length) = True := eq_true (Int32.not_lt.mp (nI_pos (by have := f2.2.1; omega)))
        have n00 : ((0 : Int32) < 0) = False := by decide
        have e01 : ((0 : Int32) = 1) = False := by decide
        have Bp : ∀ X : aM, e_pf (mk sh X) 32 11 8 (.int 0) = some (mk sh (mI X 32 8 0)) := fun X => pfI_mk z1.1 rfl rfl
        have i4 : ∀ X : aM, (mI (mI (mI X 72 1 0) 72 2 0) 32 8 0).1 33 4 = X.1 33 4 := fun X => by rw [mI_o (by decide), mI_o (by decide), mI_o (by decide)]
        have g00 : ∀ X : aM, e_gf (mk sh X) 41 5 0 = some (.int (X.1 41 0)) := fun X => by rw [gf_mk (show shp sh 41 = some (rowE 41 0) from z2 0 (by decide))]; rfl
        have i41 : (gl M1 41 31 R2).1 41 0 = nI (M1.2.1 35 0).toNatClampNeg := by
          have := gl_I (M := M1) (R := R2) (a := 41) (n := 31) (k := 0) (j := 0) (by decide)
          rw [hn0] at this
          exact this
        have tC : evp sc (d + 80) 131 0 [(0, .ref 32), (1, .int 0)] [] (mk sh M) = some (some (.int (nI (M1.2.1 35 0).toNatClampNeg)), mk sh (mI (mI (mI (mI (gl M1 41 31 R2) 72 1 0) 72 2 0) 32 8 0) 33 4 0)) := by
          simp (maxDischargeDepth := 9) only [s131_0, s131_1, s131_2, s131_5, s131_6, s131_11, s131_12, s131_13, s131_21, s131_22, s131_25, s131_26, s131_29, s131_32, s131_35, s131_36, nl_sti, nl_str, nl_ci, nl_cr, nl_nil, ld_cons, ld_st, lr_some, li_some, lj_some, n2_nl, n2_ci, n2_cr, n2_nil, n2_sti, n2_str, tl_some, tl_none, cat_le, List.length_cons, List.length_nil, Option.bind_some, Option.bind_none, Option.map_some, cond_true, cond_false, Bool.and_true, Bool.true_and, reduceIte, Nat.reduceEqDiff, Nat.reduceAdd, Nat.reduceLeDiff, Nat.zero_add, Nat.zero_le, Nat.zero_ne_one, Nat.one_ne_zero, Nat.reduceLT, true_or, or_true, false_or, or_false, false_and, true_and, and_false, and_true, not_false_eq_true, not_true_eq_false, eq_self, mA_A, mA_I, mI_A, mI_I, b01, b10, b01n, b10n, i10, i01, im0, ei_max, ei_min, ei_obj, n30, n20, b011, b101, orn, nor, dneg, dnle, dne, dcl, cat0, cat1, cat2, cat3, cat4, Bu_c z1, Bu_g0 z1, Bu_g2 z1, Tp_g1 z7, isC_mk (show shp sh 41 = some (rowE 41 0) from z2 0 (by decide)), t1, e01, tb, nl_cj]
          rw [v1, s131_71]
          simp (maxDischargeDepth := 9) only [s131_72, s131_75, s131_78, s131_79, s131_80, s131_83, s131_84, s131_87, s131_88, s131_91, s131_92, s131_93, s131_96, s131_99, s110_0, s110_1, s110_4, s110_5, s110_6, s110_9, s110_12, s110_13, s110_14, s110_15, s110_16, s110_19, s110_20, nl_sti, nl_str, nl_ci, nl_cr, nl_nil, ld_cons, ld_st, lr_some, li_some, lj_some, n2_nl, n2_ci, n2_cr, n2_nil, n2_sti, n2_str, tl_some, tl_none, cat_le, List.length_cons, List.length_nil, Option.bind_some, Option.bind_none, Option.map_some, cond_true, cond_false, Bool.and_true, Bool.true_and, reduceIte, Nat.reduceEqDiff, Nat.reduceAdd, Nat.reduceLeDiff, Nat.zero_add, Nat.zero_le, Nat.zero_ne_one, Nat.one_ne_zero, Nat.reduceLT, true_or, or_true, false_or, or_false, false_and, true_and, and_false, and_true, not_false_eq_true, not_true_eq_false, eq_self, mA_A, mA_I, mI_A, mI_I, b01, b10, b01n, b10n, i10, i01, im0, ei_max, ei_min, ei_obj, n30, n20, b011, b101, orn, nor, dneg, dnle, dne, dcl, cat0, cat1, cat2, cat3, cat4, Bu_g0 z1, Bu_g2 z1, Bu_g3 z1, isC_mk z3.1, F_forget z3, Bp, Tp_c z7, Tp_g4 z7, Tp_p4 z7, i4, sz4, tl0, n00, g00, i41, v2, v3]
        have ry := refY (fun z => absurd z.1 (by decide))
        rw [if_pos rfl] at ry
        have j12 : (mR W2 8 fF).1 0 12 = nI (M1.2.1 35 0).toNatClampNeg := by
          show W2.1 0 12 = _
          rw [v6 12 (by decide)]
          exact g12
        have tR : evp sc (d + 80) 202 39 [(0, .ref 111), (1, .int 0)] [] (mk sh2 (gl M2 111 15 W1)) = some (some (.int (nI (M1.2.1 35 0).toNatClampNeg)), mk sh2 (gl M2 111 15 (mR W2 8 fF))) := by
          rw [s202_39]
          simp (maxDischargeDepth := 9) only [s202_40, s202_41, s202_44, s202_45, s202_46, s202_120, s202_121, s202_124, s202_125, s202_128, nl_sti, nl_str, nl_ci, nl_cr, nl_nil, ld_cons, ld_st, lr_some, li_some, lj_some, n2_nl, n2_ci, n2_cr, n2_nil, n2_sti, n2_str, tl_some, tl_none, cat_le, List.length_cons, List.length_nil, Option.bind_some, Option.bind_none, Option.map_some, cond_true, cond_false, Bool.and_true, Bool.true_and, reduceIte, Nat.reduceEqDiff, Nat.reduceAdd, Nat.reduceLeDiff, Nat.zero_add, Nat.zero_le, Nat.zero_ne_one, Nat.one_ne_zero, Nat.reduceLT, true_or, or_true, false_or, or_false, false_and, true_and, and_false, and_true, not_false_eq_true, not_true_eq_false, eq_self, mA_A, mA_I, mI_A, mI_I, b01, b10, b01n, b10n, i10, i01, im0, ei_max, ei_min, ei_obj, n30, n20, b011, b101, orn, nor, dneg, dnle, dne, dcl, cat0, cat1, cat2, cat3, cat4, gM2, pM2, gM12, pM12, cM, cM hS2, hS2, e01, ub, v4, j12]
        -- the state again
        have eM : ∀ y, ¬ y = 32 → ¬ y = 33 → ¬ y = 72 → ¬ (41 ≤ y ∧ y < 72) → (mI (mI (mI (mI (gl M1 41 31 R2) 72 1 0) 72 2 0) 32 8 0) 33 4 0).1 y = M1.1 y := fun y p1 p2 p3 p4 => by
          rw [mI_o p2, mI_o p1, mI_o p3, mI_o p3]
          exact funext (fun j => gl_Io (by omega))
        have eA : ∀ y, ¬ (41 ≤ y ∧ y < 72) → (mI (mI (mI (mI (gl M1 41 31 R2) 72 1 0) 72 2 0) 32 8 0) 33 4 0).2.1 y = M1.2.1 y := fun y p => by
          rw [mI_A, mI_A, mI_A, mI_A, gl_Ao (by omega)]
        have smF : ∀ b n, 73 ≤ b → Sm M (mI (mI (mI (mI (gl M1 41 31 R2) 72 1 0) 72 2 0) 32 8 0) 33 4 0) b n := fun b n hb y p1 _ => ⟨by rw [eM y (by omega) (by omega) (by omega) (by omega)]; exact (f1.1 y (by omega)).1, by rw [eA y (by omega)]; exact (f1.1 y (by omega)).2⟩
        refine ⟨_, sh, _, mR W2 8 fF, tC, ry.trans tR, smF 111 15 (by decide), ?_⟩
        have fy := fz.tr f3
        have w8 : (mR W2 8 fF).2.1 8 = fF := mR_s _ _ _
        have wA : ∀ k, ¬ k = 3 → ¬ k = 8 → (mR W2 8 fF).2.1 k = W1.2.1 k := fun k p q => by rw [mR_o q, v7, gA k p]
        have w3' : (mR W2 8 fF).2.1 3 = (bgW (mI W1 0 2 0)).2.1 3 := by rw [mR_o (by decide), v7]
        have wI : ∀ j, ¬ j = 33 → ¬ j = 12 → ¬ j = 19 → ¬ j = 20 → ¬ j = 2 → (mR W2 8 fF).1 0 j = W1.1 0 j := fun j p1 p2 p3 p4 p5 => by
          show W2.1 0 j = _
          rw [v6 j p1, gj j p2 p3 p4 p5]
        refine IP.nw (F := F) (kk := kk) (st2 := st2) h1' (hz.mono (by omega)) ?_ ?_ ?_ ((smF 75 31 (by decide)).td h75) ?_ hst ?_ ?_ ?_ ?_ (n := (M1.2.1 35 0).toNatClampNeg) (dl := (M1.2.1 35 1).toNatClampNeg) (bal := (M1.2.1 35 2).toNatClampNeg) (lv := (M1.2.1 35 3).toNatClampNeg) (wl := wl2) (al := []) (Ln := fun _ => []) ?_ ?_ ?_ ?_ ?_ ?_
        · refine ⟨0, by decide, by rw [mI_At, if_pos rfl]; rfl, ?_, fun i hi => absurd hi (Nat.not_lt_zero i)⟩
          show W2.1 0 2 = _
          rw [v6 2 (by decide)]
          unfold bgW
          rw [mI_At, if_neg (by decide), mI_At, if_neg (by decide), mI_At, if_neg (by decide)]
          show (mI W1 0 2 0).1 0 2 = _
          rw [mI_At, if_pos rfl]
          rfl
        · refine ScR.of (M := M) (W := lc M 111) ⟨m, hm4, hmC, hmR, hsc⟩ (by rw [eM 38 (by decide) (by decide) (by decide) (by decide), (f1.1 38 (by decide)).1]) (by rw [eA 39 (by decide), (f1.1 39 (by decide)).2]) (by rw [eA 40 (by decide), (f1.1 40 (by decide)).2]) ?_ (fun j hj => ?_) (fun j hj => ?_)
          · rw [wI 13 (by decide) (by decide) (by decide) (by decide) (by decide)]
            exact fy.1 13 (by omega)
          · rw [wA 6 (by decide) (by decide)]
            exact fy.2.2.1 j hj
          · rw [wA 7 (by decide) (by decide)]
            exact fy.2.2.2 j hj
        · intro j hj
          rw [eA 110 (by decide), (f1.1 110 (by decide)).2, wA 5 (by decide) (by decide), fy.2.1 5 (by omega)]
          exact hst4 j hj
        · exact hG.sm (fun i b hi hb => smF b 31 (by have := (hG.1 i b hi hb).1; omega))
        · rw [wI 18 (by decide) (by decide) (by decide) (by decide) (by decide), fy.1 18 (by omega)]
          exact h18
        · rcases hk with e | ⟨b, k1, k2, k3, k4, k5⟩
          · exact Or.inl e
          · exact Or.inr ⟨b, k1, k2, k3, (smF b 31 (by omega)).td k4, k5⟩
        · rw [mI_o (by decide), mI_o (by decide), mI_At, if_neg (by decide), mI_At, if_pos rfl]
        · rw [mI_o (by decide), mI_o (by decide), mI_At, if_pos rfl]
        · rw [w8]
          have r1 := RI.put (M := M1) (a := 41) (RI_lg0 v5)
          exact (r1.sm (M' := mI (mI (mI (mI (gl M1 41 31 R2) 72 1 0) 72 2 0) 32 8 0) 33 4 0) (fun y p1 p2 => ⟨by rw [mI_o (by omega), mI_o (by omega), mI_o (by omega), mI_o (by omega)], rfl⟩)).mono (by omega)
        · refine cW.of (W := W2) ?_ rfl (mR_o (by decide))
          exact hcW.of (v6 12 (by decide)) (by rw [v7])
        · show W2.1 0 19 = 0
          rw [v6 19 (by decide)]
          unfold bgW
          rw [mI_At, if_neg (by decide), mI_At, if_pos rfl]
        · show W2.1 0 20 = 0
          rw [v6 20 (by decide)]
          unfold bgW
          rw [mI_At, if_pos rfl]
        · rw [mI_o (by decide), mI_At, if_pos rfl]
        · rw [w3']
          exact g3v 0 (by decide)
    · by_cases e14 : x = 1 ∧ m = 4
      · exact ⟨-1, sh, M1, _, clsN ca, refN e14.1 e14.2, f1.sm (by decide), fin0⟩
      · have ry := refY e14
        rw [if_neg ca] at ry
        exact ⟨-1, sh, M1, W1, clsN ca, ry, f1.sm (by decide), fin1⟩)
end
