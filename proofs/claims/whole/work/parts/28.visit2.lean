section
variable {sc : aS} {d : Nat} {sh : List sE} {M R : aM} {a : Nat} {h : aH}
theorem lRaise_I (R : aM) (l : Nat) : (lRaise R l).1 = R.1 := by unfold lRaise; split <;> rfl
theorem lRaiseF_I : ∀ (k l : Nat) (R : aM), (lRaiseF l k R).1 = R.1
  | 0, _, _ => rfl
  | k + 1, l, R => (lRaiseF_I k (l + 1) (lRaise R l)).trans (lRaise_I R l)
theorem lEase_I (R : aM) (l : Nat) : (lEase R l).1 = R.1 := by unfold lEase; split <;> rfl
theorem lEaseF_I : ∀ (k l : Nat) (R : aM), (lEaseF l k R).1 = R.1
  | 0, _, _ => rfl
  | k + 1, l, R => (lEaseF_I k (l + 1) (lEase R l)).trans (lEase_I R l)
theorem rBal_I (R : aM) (s b n : Nat) : (rBal R s b n).1 = R.1 := by
  unfold rBal
  split
  · rfl
  · split
    · rfl
    · rw [lRaiseF_I]; rfl
theorem tSent_0 (R : aM) (s : Nat) : (tSent R s).1 0 = R.1 0 := rfl
theorem rFill_0 (R : aM) (s b n : Nat) : (rFill R s b n).1 0 = R.1 0 := by
  unfold rFill
  split
  · split
    · rw [lEaseF_I]
    · rw [rBal_I, tSent_0, lMove_0]
  · split
    · split
      · rfl
      · rw [tSent_0, lMove_0]
    · rfl
theorem rAsk_0 (R : aM) (B v : Nat) : (rAsk R B v).1 0 = R.1 0 := by
  unfold rAsk
  split
  · split
    · rfl
    · rw [lRaiseF_I]; rfl
  · rw [lRaiseF_I]; rfl
theorem rAsks_0 : ∀ (k B : Nat) (R : aM), (rAsks B k R).1 0 = R.1 0
  | 0, _, _ => rfl
  | k + 1, B, R => (rAsks_0 k B (rAsk R B k)).trans (rAsk_0 R B k)
theorem rRecv_I {R : aM} {s b j : Nat} (hj : j ≠ 30) : (rRecv R s b).1 j = R.1 j := by
  have e : ∀ (R : aM) (k : Nat) (v : Int32), (mI R 30 k v).1 j = R.1 j := by intro R k v; funext i; simp [mI, up2, hj]
  have e1 : (slBegin R).1 j = R.1 j := by unfold slBegin slEmpty; rw [e, e, e, e, e]
  unfold rRecv
  generalize (if nI b = 0 then nI s - 1 else nI s) = hv
  simp only
  split
  · unfold rHead
    split
    · exact e1
    · split
      · rw [e]; exact e1
      · exact e1
  · split
    · split
      · rfl
      · unfold hTake; simp only [mA_I]; rw [e, e, e, e, e, e, e, e, e]
    · exact e1
theorem rRecv_A {R : aM} {s b j : Nat} (h1 : j ≠ 3) (h2 : j ≠ 18) : (rRecv R s b).2.1 j = R.2.1 j := by
  have e : ∀ (R : aM) (k i : Nat) (v : Int32), k ≠ j → (mA R k i v).2.1 j = R.2.1 j := by intro R k i v hk; funext q; simp [mA, up2, Ne.symm hk]
  unfold rRecv
  generalize (if nI b = 0 then nI s - 1 else nI s) = hv
  simp only
  split
  · unfold rHead
    split
    · rfl
    · split
      · rw [mI_A, e _ _ _ _ (Ne.symm h1), e _ _ _ _ (Ne.symm h1)]; rfl
      · rw [e _ _ _ _ (Ne.symm h1)]; rfl
  · split
    · split
      · rfl
      · unfold hTake; rw [e _ _ _ _ (Ne.symm h2)]; rfl
    · rfl
theorem rErase_0 (R : aM) (s : Nat) : (rErase R s).1 0 = R.1 0 := by
  unfold rErase
  split
  · rfl
  · split <;> rfl
theorem rErase_A (R : aM) (s : Nat) : (rErase R s).2.1 = R.2.1 := by
  unfold rErase
  split
  · rfl
  · split <;> rfl
theorem tdOpen_A (R : aM) (k : Nat) : (tdOpen R k).2.1 = R.2.1 := by
  unfold tdOpen
  split <;> rfl
theorem tdOpen_I {R : aM} {k j : Nat} (h : j ≠ k) : (tdOpen R k).1 j = R.1 j := by
  unfold tdOpen
  split <;> (funext q; simp [mI, up2, h])
theorem rDeliver_0 (R : aM) (s f P : Nat) : (rDeliver R s f P).1 0 = R.1 0 := by
  unfold rDeliver
  simp only [mA_I]
  rw [tdOpen_I (by decide)]
  rfl
theorem rDeliver_A {R : aM} {s f P j : Nat} (hj : j < 20) : (rDeliver R s f P).2.1 j = R.2.1 j := by
  funext q
  have h29 : ¬ (j = 29) := by omega
  have h20 : ¬ (j = 20) := by omega
  have h23 : ¬ (j = 23) := by omega
  have h24 : ¬ (j = 24) := by omega
  have h25 : ¬ (j = 25) := by omega
  unfold rDeliver
  simp only [mA_A, tdOpen_A, h29, false_and, if_false]
  unfold tDeliv
  simp only [mA_A, mI_A, h20, h23, h24, h25, false_and, if_false]
theorem rReadAt_0 (R : aM) (s : Nat) : (rReadAt R s).1 0 = R.1 0 := by
  unfold rReadAt
  split
  · exact rErase_0 R s
  · rw [rErase_0, rDeliver_0]
theorem rReadAt_A {R : aM} {s j : Nat} (hj : j < 20) : (rReadAt R s).2.1 j = R.2.1 j := by
  unfold rReadAt
  split
  · rw [rErase_A]
  · rw [rErase_A, rDeliver_A hj]
/-- what a station does with the slot of a bus -/
def rVisit (R : aM) (s b n : Nat) : aM :=
  let R1 := rRecv R s b
  if R1.1 30 0 = 0 then R1 else
  let R2 := rReadAt R1 s
  let R3 := if R2.1 30 1 = 0 then rFill R2 s b n else R2
  let R4 := if R3.1 30 8 = nI s then mI R3 30 8 (-1) else R3
  rOn (rAsks ((s * 2 + (1 - b)) * 3) n R4) s b
/-- what a visit needs -/
def VisOk (R : aM) (n dl lv s b : Nat) : Prop := (∃ t, RowOk R n dl lv t) ∧ (∀ l, l < 48 → ¬ R.2.1 9 l ≤ 0 → ∃ c, c < 240 ∧ R.2.1 10 l = nI c) ∧ (∃ P, tdPl (tdOpen R 28) 28 0 = nI P ∧ P + 4 < 200) ∧
  (¬ (rRecv R s b).1 30 0 = 0 → ¬ ((rRecv R s b).1 30 1 = 0 ∨ ¬ (rRecv R s b).1 30 6 = 0) → ∃ f, f < 8 ∧ (rRecv R s b).1 30 2 = nI f)
theorem tdPl_of {R R' : aM} (h : R'.1 28 = R.1 28) : tdPl (tdOpen R' 28) 28 0 = tdPl (tdOpen R 28) 28 0 := by
  simp only [tdPl, tdOpen, h]
  split <;> simp only [mI_I, h]
theorem R_visit (hS : RowSh sh a) {n dl lv s b : Nat} (hs : s < n) (hb : b < 2) (ok : VisOk R n dl lv s b) : evp sc (d + 4) 79 0 [(0, .ref a), (1, .int (nI s)), (2, .int (nI b))] [] (mk sh (gl M a 31 R)) = some (none, mk sh (gl M a 31 (rVisit R s b lv))) := by
  obtain ⟨⟨t, ok⟩, hF, ⟨P, hP, hp⟩, hfr⟩ := ok
  have hr := R_receive (sc := sc) (d := d + 1) (M := M) hS ok hs hb
  have i0 := rRecv_I (R := R) (s := s) (b := b) (show (0 : Nat) ≠ 30 by decide)
  have i28 := rRecv_I (R := R) (s := s) (b := b) (show (28 : Nat) ≠ 30 by decide)
  have i9 := rRecv_A (R := R) (s := s) (b := b) (show (9 : Nat) ≠ 3 by decide) (show (9 : Nat) ≠ 18 by decide)
  have i10 := rRecv_A (R := R) (s := s) (b := b) (show (10 : Nat) ≠ 3 by decide) (show (10 : Nat) ≠ 18 by decide)
  unfold rVisit
  generalize rRecv R s b = R1 at hr i0 i28 i9 i10 hfr ⊢
  have ok1 := ok.of i0
  have hn8 : n ≤ 8 := ok.2.1
  have hlv3 : lv ≤ 3 := ok.2.2.2.2.2.1
  have e1 : (1 : Int32) - nI b = nI (1 - b) := by
    rcases (show b = 0 ∨ b = 1 by omega) with rfl | rfl <;> rfl
  have eB : (nI s * 2 + nI (1 - b)) * 3 + 0 = nI ((s * 2 + (1 - b)) * 3) := by simp only [nI_add, nI_1, nI_mul, nm2, nm3, nm4, nm5, nm6, nm8, nm16, nm25, nm30, nm32, nm80, na2, na3, na4, na5, na6, na7, na8, na16, na0]
  by_cases ht : R1.1 30 0 = 0
  · simp only [s79_0, s79_1, s79_2, s79_3, s79_6, s79_7, s79_10, s79_13, s79_16, s79_17, s79_18, s79_19, s79_22, s79_23, s79_26, s79_29, s79_32, s79_33, s79_34, s79_35, s79_38, s79_39, s79_42, s79_45, s79_46, s79_49, s79_50, s79_53, s79_54, s79_57, s79_58, s79_59, s79_60, s79_61, s79_62, s79_63, s79_66, s79_69, s79_70, s79_71, s79_72, s79_75, nl_sti, nl_str, nl_ci, nl_cr, nl_nil, ld_cons, ld_st, lr_some, li_some, lj_some, n2_nl, n2_ci, n2_cr, n2_nil, n2_sti, n2_str, tl_some, tl_none, cat_le, List.length_cons, List.length_nil, Option.bind_some, Option.bind_none, Option.map_some, cond_true, cond_false, Bool.and_true, Bool.true_and, reduceIte, Nat.reduceEqDiff, Nat.reduceAdd, Nat.reduceLeDiff, Nat.zero_add, Nat.zero_le, Nat.zero_ne_one, Nat.one_ne_zero, Nat.reduceLT, true_or, or_true, false_or, or_false, false_and, true_and, and_false, and_true, not_false_eq_true, not_true_eq_false, eq_self, mA_A, mA_I, mI_A, mI_I, b01, b10, b01n, b10n, i10, i01, im0, ei_max, ei_min, ei_obj, n30, n20, gR0_0, pR0_0, gR0_1, pR0_1, gR0_2, pR0_2, gR0_3, pR0_3, gR0_4, pR0_4, gR0_5, pR0_5, gR0_6, pR0_6, gR0_7, gR0_8, gR0_9, gR0_10, gR0_11, gR0_12, gR0_13, gR0_14, gR0_15, gR0_16, cR0, gR30_0, pR30_0, gR30_1, pR30_1, gR30_2, pR30_2, gR30_3, pR30_3, gR30_4, pR30_4, gR30_5, pR30_5, gR30_6, pR30_6, gR30_7, pR30_7, gR30_8, pR30_8, cR30, cR5, cR17, cR19, cR26, cR28, hS, hr, ht]
  · have ha := R_readAt (sc := sc) (d := d) (M := M) (R := R1) hS (s := s) (P := P) (by omega) (by rw [tdPl_of i28]; exact hP) hp (hfr ht)
    have j0 := rReadAt_0 R1 s
    have j9 := rReadAt_A (R := R1) (s := s) (show 9 < 20 by decide)
    have j10 := rReadAt_A (R := R1) (s := s) (show 10 < 20 by decide)
    simp only
    generalize rReadAt R1 s = R2 at ha j0 j9 j10 ⊢
    have ok2 := ok1.of j0
    have hF2 : ∀ l, l < 48 → ¬ R2.2.1 9 l ≤ 0 → ∃ c, c < 240 ∧ R2.2.1 10 l = nI c := by
      intro l hl hq
      rw [j9, i9] at hq
      rw [j10, i10]
      exact hF l hl hq
    have key : ∀ (R3 : aM), RowOk R3 n dl lv t → evp sc (d + 4) 79 38 [(0, .ref a), (1, .int (nI s)), (2, .int (nI b))] [] (mk sh (gl M a 31 R3)) = some (none, mk sh (gl M a 31 (rOn (rAsks ((s * 2 + (1 - b)) * 3) lv (if R3.1 30 8 = nI s then mI R3 30 8 (-1) else R3)) s b))) := by
      intro R3 ok3
      by_cases ho : R3.1 30 8 = nI s
      · have ok4 : RowOk (mI R3 30 8 (-1)) n dl lv t := ok3.of rfl
        have he := R_exchangeAsks (sc := sc) (d := d + 1) (M := M) (R := mI R3 30 8 (-1)) hS (B := (s * 2 + (1 - b)) * 3) (n := lv) (by omega) hlv3 ok4.2.2.2.2.1
        have hsn := R_sendOn (sc := sc) (d := d + 1) (M := M) (R := rAsks ((s * 2 + (1 - b)) * 3) lv (mI R3 30 8 (-1))) hS (ok4.of (rAsks_0 _ _ _)) hs hb
        simp only [s79_0, s79_1, s79_2, s79_3, s79_6, s79_7, s79_10, s79_13, s79_16, s79_17, s79_18, s79_19, s79_22, s79_23, s79_26, s79_29, s79_32, s79_33, s79_34, s79_35, s79_38, s79_39, s79_42, s79_45, s79_46, s79_49, s79_50, s79_53, s79_54, s79_57, s79_58, s79_59, s79_60, s79_61, s79_62, s79_63, s79_66, s79_69, s79_70, s79_71, s79_72, s79_75, nl_sti, nl_str, nl_ci, nl_cr, nl_nil, ld_cons, ld_st, lr_some, li_some, lj_some, n2_nl, n2_ci, n2_cr, n2_nil, n2_sti, n2_str, tl_some, tl_none, cat_le, List.length_cons, List.length_nil, Option.bind_some, Option.bind_none, Option.map_some, cond_true, cond_false, Bool.and_true, Bool.true_and, reduceIte, Nat.reduceEqDiff, Nat.reduceAdd, Nat.reduceLeDiff, Nat.zero_add, Nat.zero_le, Nat.zero_ne_one, Nat.one_ne_zero, Nat.reduceLT, true_or, or_true, false_or, or_false, false_and, true_and, and_false, and_true, not_false_eq_true, not_true_eq_false, eq_self, mA_A, mA_I, mI_A, mI_I, b01, b10, b01n, b10n, i10, i01, im0, ei_max, ei_min, ei_obj, n30, n20, gR0_0, pR0_0, gR0_1, pR0_1, gR0_2, pR0_2, gR0_3, pR0_3, gR0_4, pR0_4, gR0_5, pR0_5, gR0_6, pR0_6, gR0_7, gR0_8, gR0_9, gR0_10, gR0_11, gR0_12, gR0_13, gR0_14, gR0_15, gR0_16, cR0, gR30_0, pR30_0, gR30_1, pR30_1, gR30_2, pR30_2, gR30_3, pR30_3, gR30_4, pR30_4, gR30_5, pR30_5, gR30_6, pR30_6, gR30_7, pR30_7, gR30_8, pR30_8, cR30, cR5, cR17, cR19, cR26, cR28, hS, ho, e1, L_indexOf, eB, he, hsn]
      · have he := R_exchangeAsks (sc := sc) (d := d + 1) (M := M) (R := R3) hS (B := (s * 2 + (1 - b)) * 3) (n := lv) (by omega) hlv3 ok3.2.2.2.2.1
        have hsn := R_sendOn (sc := sc) (d := d + 1) (M := M) (R := rAsks ((s * 2 + (1 - b)) * 3) lv R3) hS (ok3.of (rAsks_0 _ _ _)) hs hb
        simp only [s79_0, s79_1, s79_2, s79_3, s79_6, s79_7, s79_10, s79_13, s79_16, s79_17, s79_18, s79_19, s79_22, s79_23, s79_26, s79_29, s79_32, s79_33, s79_34, s79_35, s79_38, s79_39, s79_42, s79_45, s79_46, s79_49, s79_50, s79_53, s79_54, s79_57, s79_58, s79_59, s79_60, s79_61, s79_62, s79_63, s79_66, s79_69, s79_70, s79_71, s79_72, s79_75, nl_sti, nl_str, nl_ci, nl_cr, nl_nil, ld_cons, ld_st, lr_some, li_some, lj_some, n2_nl, n2_ci, n2_cr, n2_nil, n2_sti, n2_str, tl_some, tl_none, cat_le, List.length_cons, List.length_nil, Option.bind_some, Option.bind_none, Option.map_some, cond_true, cond_false, Bool.and_true, Bool.true_and, reduceIte, Nat.reduceEqDiff, Nat.reduceAdd, Nat.reduceLeDiff, Nat.zero_add, Nat.zero_le, Nat.zero_ne_one, Nat.one_ne_zero, Nat.reduceLT, true_or, or_true, false_or, or_false, false_and, true_and, and_false, and_true, not_false_eq_true, not_true_eq_false, eq_self, mA_A, mA_I, mI_A, mI_I, b01, b10, b01n, b10n, i10, i01, im0, ei_max, ei_min, ei_obj, n30, n20, gR0_0, pR0_0, gR0_1, pR0_1, gR0_2, pR0_2, gR0_3, pR0_3, gR0_4, pR0_4, gR0_5, pR0_5, gR0_6, pR0_6, gR0_7, gR0_8, gR0_9, gR0_10, gR0_11, gR0_12, gR0_13, gR0_14, gR0_15, gR0_16, cR0, gR30_0, pR30_0, gR30_1, pR30_1, gR30_2, pR30_2, gR30_3, pR30_3, gR30_4, pR30_4, gR30_5, pR30_5, gR30_6, pR30_6, gR30_7, pR30_7, gR30_8, pR30_8, cR30, cR5, cR17, cR19, cR26, cR28, hS, ho, e1, L_indexOf, eB, he, hsn]
    rw [if_neg ht]
    by_cases hem : R2.1 30 1 = 0
    · have hf := R_fill (sc := sc) (d := d + 1) (M := M) (R := R2) hS (s := s) (b := b) (n := lv) (by omega) hb hlv3 ok2.2.2.2.2.1 hF2
      simp only [s79_0, s79_1, s79_2, s79_3, s79_6, s79_7, s79_10, s79_13, s79_16, s79_17, s79_18, s79_19, s79_22, s79_23, s79_26, s79_29, s79_32, s79_33, s79_34, s79_35, s79_39, s79_42, s79_45, s79_46, s79_49, s79_50, s79_53, s79_54, s79_57, s79_58, s79_59, s79_60, s79_61, s79_62, s79_63, s79_66, s79_69, s79_70, s79_71, s79_72, s79_75, nl_sti, nl_str, nl_ci, nl_cr, nl_nil, ld_cons, ld_st, lr_some, li_some, lj_some, n2_nl, n2_ci, n2_cr, n2_nil, n2_sti, n2_str, tl_some, tl_none, cat_le, List.length_cons, List.length_nil, Option.bind_some, Option.bind_none, Option.map_some, cond_true, cond_false, Bool.and_true, Bool.true_and, reduceIte, Nat.reduceEqDiff, Nat.reduceAdd, Nat.reduceLeDiff, Nat.zero_add, Nat.zero_le, Nat.zero_ne_one, Nat.one_ne_zero, Nat.reduceLT, true_or, or_true, false_or, or_false, false_and, true_and, and_false, and_true, not_false_eq_true, not_true_eq_false, eq_self, mA_A, mA_I, mI_A, mI_I, b01, b10, b01n, b10n, i10, i01, im0, ei_max, ei_min, ei_obj, n30, n20, gR0_0, pR0_0, gR0_1, pR0_1, gR0_2, pR0_2, gR0_3, pR0_3, gR0_4, pR0_4, gR0_5, pR0_5, gR0_6, pR0_6, gR0_7, gR0_8, gR0_9, gR0_10, gR0_11, gR0_12, gR0_13, gR0_14, gR0_15, gR0_16, cR0, gR30_0, pR30_0, gR30_1, pR30_1, gR30_2, pR30_2, gR30_3, pR30_3, gR30_4, pR30_4, gR30_5, pR30_5, gR30_6, pR30_6, gR30_7, pR30_7, gR30_8, pR30_8, cR30, cR5, cR17, cR19, cR26, cR28, hS, hr, ht, ha, S_isEmpty hS, hem, hf]
      exact key _ (ok2.of (rFill_0 _ _ _ _))
    · simp only [s79_0, s79_1, s79_2, s79_3, s79_6, s79_7, s79_10, s79_13, s79_16, s79_17, s79_18, s79_19, s79_22, s79_23, s79_26, s79_29, s79_32, s79_33, s79_34, s79_35, s79_39, s79_42, s79_45, s79_46, s79_49, s79_50, s79_53, s79_54, s79_57, s79_58, s79_59, s79_60, s79_61, s79_62, s79_63, s79_66, s79_69, s79_70, s79_71, s79_72, s79_75, nl_sti, nl_str, nl_ci, nl_cr, nl_nil, ld_cons, ld_st, lr_some, li_some, lj_some, n2_nl, n2_ci, n2_cr, n2_nil, n2_sti, n2_str, tl_some, tl_none, cat_le, List.length_cons, List.length_nil, Option.bind_some, Option.bind_none, Option.map_some, cond_true, cond_false, Bool.and_true, Bool.true_and, reduceIte, Nat.reduceEqDiff, Nat.reduceAdd, Nat.reduceLeDiff, Nat.zero_add, Nat.zero_le, Nat.zero_ne_one, Nat.one_ne_zero, Nat.reduceLT, true_or, or_true, false_or, or_false, false_and, true_and, and_false, and_true, not_false_eq_true, not_true_eq_false, eq_self, mA_A, mA_I, mI_A, mI_I, b01, b10, b01n, b10n, i10, i01, im0, ei_max, ei_min, ei_obj, n30, n20, gR0_0, pR0_0, gR0_1, pR0_1, gR0_2, pR0_2, gR0_3, pR0_3, gR0_4, pR0_4, gR0_5, pR0_5, gR0_6, pR0_6, gR0_7, gR0_8, gR0_9, gR0_10, gR0_11, gR0_12, gR0_13, gR0_14, gR0_15, gR0_16, cR0, gR30_0, pR30_0, gR30_1, pR30_1, gR30_2, pR30_2, gR30_3, pR30_3, gR30_4, pR30_4, gR30_5, pR30_5, gR30_6, pR30_6, gR30_7, pR30_7, gR30_8, pR30_8, cR30, cR5, cR17, cR19, cR26, cR28, hS, hr, ht, ha, S_isEmpty hS, hem]
      exact key _ ok2
end
