section
variable {sc : aS} {d : Nat} {sh : List sE} {M R : aM} {a : Nat} {h : aH}
theorem nI_sub {x y : Nat} (h : y ≤ x) : nI x - nI y = nI (x - y) := (Int32.ofNat_sub x y h).symm
theorem nI_div {x y : Nat} (hx : x < 2 ^ 31) (hy : y < 2 ^ 31) : nI x / nI y = nI (x / y) := (Int32.ofNat_div hx hy).symm
theorem nI_rem {x m : Nat} (hx : x < 2 ^ 31) (hm : m < 2 ^ 31) : nI x - nI x / nI m * nI m = nI (x % m) := by
  have h1 : x / m * m ≤ x := Nat.div_mul_le_self x m
  rw [nI_div hx hm, nI_mul, nI_sub h1]
  congr 1
  have := Nat.div_add_mod x m
  rw [Nat.mul_comm] at this
  omega
/-- the numbers of a row: stations, delay, levels, time -/
def RowOk (R : aM) (n dl lv t : Nat) : Prop := R.1 0 0 = nI n ∧ n ≤ 8 ∧ R.1 0 1 = nI dl ∧ dl ≤ 3 ∧ R.1 0 3 = nI lv ∧ lv ≤ 3 ∧ R.1 0 6 = nI t ∧ t ≤ 10000
theorem RowOk.of {R R' : aM} {n dl lv t : Nat} (ok : RowOk R n dl lv t) (h : R'.1 0 = R.1 0) : RowOk R' n dl lv t := by
  unfold RowOk at ok ⊢
  rw [h]
  exact ok
theorem L_sender_t (hS : RowSh sh a) {b n : Nat} (hbn : b + n ≤ 48) : evp sc (d + 1) 31 0 [(0, .ref (a + 5)), (1, .int (nI b)), (2, .int (nI n)), (3, .int 1)] [] (mk sh (gl M a 31 R)) = some (some (.int (lSend R b true n)), mk sh (gl M a 31 R)) := L_sender hS hbn true
theorem L_sender_f (hS : RowSh sh a) {b n : Nat} (hbn : b + n ≤ 48) : evp sc (d + 1) 31 0 [(0, .ref (a + 5)), (1, .int (nI b)), (2, .int (nI n)), (3, .int 0)] [] (mk sh (gl M a 31 R)) = some (some (.int (lSend R b false n)), mk sh (gl M a 31 R)) := L_sender hS hbn false
theorem nI_nm1 {l : Nat} (h : l < 2 ^ 31) : ¬ nI l = -1 := fun q => nI_pos h (by rw [q]; decide)
theorem lSend_spec (R : aM) (b : Nat) (turn : Bool) : ∀ k, lSend R b turn k = -1 ∨ ∃ l, b ≤ l ∧ l < b + k ∧ lSend R b turn k = nI l ∧ ¬ R.2.1 9 l ≤ 0
  | 0 => Or.inl rfl
  | k + 1 => by
    simp only [lSend]
    split
    · rcases lSend_spec R b turn k with h | ⟨l, h1, h2, h3, h4⟩
      · exact Or.inl h
      · exact Or.inr ⟨l, h1, by omega, h3, h4⟩
    · rename_i hq
      split
      · rcases lSend_spec R b turn k with h | ⟨l, h1, h2, h3, h4⟩
        · exact Or.inl h
        · exact Or.inr ⟨l, h1, by omega, h3, h4⟩
      · exact Or.inr ⟨b + k, by omega, by omega, rfl, hq⟩
theorem lMove_0 (R : aM) (l s c : Nat) : (lMove R l s c).1 0 = R.1 0 := by
  unfold lMove
  simp only
  split
  · rfl
  · rfl
/-- an empty slot is filled, if someone may -/
def rFill (R : aM) (s b n : Nat) : aM :=
  if R.1 30 8 = -1 then
    (if lSend R ((s * 2 + b) * 3) true n = -1 then lEaseF ((s * 2 + b) * 3) n R
    else rBal (tSent (lMove R (lSend R ((s * 2 + b) * 3) true n).toNatClampNeg s (R.2.1 10 (lSend R ((s * 2 + b) * 3) true n).toNatClampNeg).toNatClampNeg) s) s b n)
  else if R.1 30 8 = nI s then
    (if lSend R ((s * 2 + b) * 3) false n = -1 then R
    else tSent (lMove R (lSend R ((s * 2 + b) * 3) false n).toNatClampNeg s (R.2.1 10 (lSend R ((s * 2 + b) * 3) false n).toNatClampNeg).toNatClampNeg) s)
  else R
theorem R_fill (hS : RowSh sh a) {s b n : Nat} (hs : s < 8) (hb : b < 2) (hn : n ≤ 3) (hlv : R.1 0 3 = nI n) (hF : ∀ l, l < 48 → ¬ R.2.1 9 l ≤ 0 → ∃ c, c < 240 ∧ R.2.1 10 l = nI c) :
    evp sc (d + 2) 83 0 [(0, .ref a), (1, .int (nI s)), (2, .int (nI b))] [] (mk sh (gl M a 31 R)) = some (none, mk sh (gl M a 31 (rFill R s b n))) := by
  have eB : (nI s * 2 + nI b) * 3 + 0 = nI ((s * 2 + b) * 3) := by simp only [nI_add, nI_1, nI_mul, nm2, nm3, nm4, nm5, nm6, nm8, nm16, nm25, nm30, nm32, nm80, na2, na3, na4, na5, na6, na7, na8, na16, na0]
  have hB : (s * 2 + b) * 3 + n ≤ 48 := by omega
  by_cases c0 : R.1 30 8 = -1
  · rcases lSend_spec R ((s * 2 + b) * 3) true n with h1 | ⟨l, h1, h2, h3, h4⟩
    · simp only [s83_0, s83_1, s83_4, s83_7, s83_8, s83_11, s83_12, s83_15, s83_16, s83_17, s83_18, s83_21, s83_22, s83_25, s83_28, s83_29, s83_32, s83_33, s83_34, s83_35, s83_36, s83_39, s83_41, s83_42, s83_45, s83_47, s83_48, s83_51, s83_52, s83_55, s83_57, s83_59, s83_60, s83_63, s83_64, s83_67, s83_69, s83_70, s83_71, s83_74, s83_77, s83_78, s83_81, s83_82, s83_85, s83_86, s83_89, s83_90, s83_91, s83_92, s83_94, s83_97, s83_100, s83_101, s83_104, s83_105, s83_108, s83_110, s83_111, s83_114, s83_117, nl_sti, nl_str, nl_ci, nl_cr, nl_nil, ld_cons, ld_st, lr_some, li_some, lj_some, n2_nl, n2_ci, n2_cr, n2_nil, n2_sti, n2_str, tl_some, tl_none, cat_le, List.length_cons, List.length_nil, Option.bind_some, Option.bind_none, Option.map_some, cond_true, cond_false, Bool.and_true, Bool.true_and, reduceIte, Nat.reduceEqDiff, Nat.reduceAdd, Nat.reduceLeDiff, Nat.zero_add, Nat.zero_le, Nat.zero_ne_one, Nat.one_ne_zero, Nat.reduceLT, true_or, or_true, false_or, or_false, false_and, true_and, and_false, and_true, not_false_eq_true, not_true_eq_false, eq_self, mA_A, mA_I, mI_A, mI_I, b01, b10, b01n, b10n, i10, i01, im0, ei_max, ei_min, ei_obj, n30, n20, gR0_0, pR0_0, gR0_1, pR0_1, gR0_2, pR0_2, gR0_3, pR0_3, gR0_4, pR0_4, gR0_5, pR0_5, gR0_6, pR0_6, gR0_7, gR0_8, gR0_9, gR0_10, gR0_11, gR0_12, gR0_13, gR0_14, gR0_15, gR0_16, cR0, gR30_0, pR30_0, gR30_1, pR30_1, gR30_2, pR30_2, gR30_3, pR30_3, gR30_4, pR30_4, gR30_5, pR30_5, gR30_6, pR30_6, gR30_7, pR30_7, gR30_8, pR30_8, cR30, cR5, cR17, cR19, cR26, cR28, hS, c0, L_indexOf, eB, hlv, L_sender_t hS hB, h1, L_easeBelow hS hB, rFill]
    · obtain ⟨c, hc, hcf⟩ := hF l (by omega) h4
      have k1 : (nI l = -1) = False := eq_false (nI_nm1 (by omega))
      have k2 := cl_nI (show l < 48 by omega) (by decide : 48 < 2 ^ 31)
      have k3 := cl_nI hc (by decide : 240 < 2 ^ 31)
      have hlv' : (tSent (lMove R l s c) s).1 0 3 = nI n := by
        show (lMove R l s c).1 0 3 = nI n
        rw [lMove_0]
        exact hlv
      simp only [s83_0, s83_1, s83_4, s83_7, s83_8, s83_11, s83_12, s83_15, s83_16, s83_17, s83_18, s83_21, s83_22, s83_25, s83_28, s83_29, s83_32, s83_33, s83_34, s83_35, s83_36, s83_39, s83_41, s83_42, s83_45, s83_47, s83_48, s83_51, s83_52, s83_55, s83_57, s83_59, s83_60, s83_63, s83_64, s83_67, s83_69, s83_70, s83_71, s83_74, s83_77, s83_78, s83_81, s83_82, s83_85, s83_86, s83_89, s83_90, s83_91, s83_92, s83_94, s83_97, s83_100, s83_101, s83_104, s83_105, s83_108, s83_110, s83_111, s83_114, s83_117, nl_sti, nl_str, nl_ci, nl_cr, nl_nil, ld_cons, ld_st, lr_some, li_some, lj_some, n2_nl, n2_ci, n2_cr, n2_nil, n2_sti, n2_str, tl_some, tl_none, cat_le, List.length_cons, List.length_nil, Option.bind_some, Option.bind_none, Option.map_some, cond_true, cond_false, Bool.and_true, Bool.true_and, reduceIte, Nat.reduceEqDiff, Nat.reduceAdd, Nat.reduceLeDiff, Nat.zero_add, Nat.zero_le, Nat.zero_ne_one, Nat.one_ne_zero, Nat.reduceLT, true_or, or_true, false_or, or_false, false_and, true_and, and_false, and_true, not_false_eq_true, not_true_eq_false, eq_self, mA_A, mA_I, mI_A, mI_I, b01, b10, b01n, b10n, i10, i01, im0, ei_max, ei_min, ei_obj, n30, n20, gR0_0, pR0_0, gR0_1, pR0_1, gR0_2, pR0_2, gR0_3, pR0_3, gR0_4, pR0_4, gR0_5, pR0_5, gR0_6, pR0_6, gR0_7, gR0_8, gR0_9, gR0_10, gR0_11, gR0_12, gR0_13, gR0_14, gR0_15, gR0_16, cR0, gR30_0, pR30_0, gR30_1, pR30_1, gR30_2, pR30_2, gR30_3, pR30_3, gR30_4, pR30_4, gR30_5, pR30_5, gR30_6, pR30_6, gR30_7, pR30_7, gR30_8, pR30_8, cR30, cR5, cR17, cR19, cR26, cR28, hS, c0, L_indexOf, eB, hlv, L_sender_t hS hB, h3, k1, k2, k3, hcf, L_moveFirst hS (show l < 48 by omega) hs hc hcf, T_addSent hS hs, R_keepBalance hS hs hb hn hlv', rFill]
  · by_cases c1 : R.1 30 8 = nI s
    · have c2 : (nI s = -1) = False := eq_false (nI_nm1 (by omega))
      rcases lSend_spec R ((s * 2 + b) * 3) false n with h1 | ⟨l, h1, h2, h3, h4⟩
      · simp only [s83_0, s83_1, s83_4, s83_7, s83_8, s83_11, s83_12, s83_15, s83_16, s83_17, s83_18, s83_21, s83_22, s83_25, s83_28, s83_29, s83_32, s83_33, s83_34, s83_35, s83_36, s83_39, s83_41, s83_42, s83_45, s83_47, s83_48, s83_51, s83_52, s83_55, s83_57, s83_59, s83_60, s83_63, s83_64, s83_67, s83_69, s83_70, s83_71, s83_74, s83_77, s83_78, s83_81, s83_82, s83_85, s83_86, s83_89, s83_90, s83_91, s83_92, s83_94, s83_97, s83_100, s83_101, s83_104, s83_105, s83_108, s83_110, s83_111, s83_114, s83_117, nl_sti, nl_str, nl_ci, nl_cr, nl_nil, ld_cons, ld_st, lr_some, li_some, lj_some, n2_nl, n2_ci, n2_cr, n2_nil, n2_sti, n2_str, tl_some, tl_none, cat_le, List.length_cons, List.length_nil, Option.bind_some, Option.bind_none, Option.map_some, cond_true, cond_false, Bool.and_true, Bool.true_and, reduceIte, Nat.reduceEqDiff, Nat.reduceAdd, Nat.reduceLeDiff, Nat.zero_add, Nat.zero_le, Nat.zero_ne_one, Nat.one_ne_zero, Nat.reduceLT, true_or, or_true, false_or, or_false, false_and, true_and, and_false, and_true, not_false_eq_true, not_true_eq_false, eq_self, mA_A, mA_I, mI_A, mI_I, b01, b10, b01n, b10n, i10, i01, im0, ei_max, ei_min, ei_obj, n30, n20, gR0_0, pR0_0, gR0_1, pR0_1, gR0_2, pR0_2, gR0_3, pR0_3, gR0_4, pR0_4, gR0_5, pR0_5, gR0_6, pR0_6, gR0_7, gR0_8, gR0_9, gR0_10, gR0_11, gR0_12, gR0_13, gR0_14, gR0_15, gR0_16, cR0, gR30_0, pR30_0, gR30_1, pR30_1, gR30_2, pR30_2, gR30_3, pR30_3, gR30_4, pR30_4, gR30_5, pR30_5, gR30_6, pR30_6, gR30_7, pR30_7, gR30_8, pR30_8, cR30, cR5, cR17, cR19, cR26, cR28, hS, c1, c2, L_indexOf, eB, hlv, L_sender_f hS hB, h1, rFill]
      · obtain ⟨c, hc, hcf⟩ := hF l (by omega) h4
        have k1 : (nI l = -1) = False := eq_false (nI_nm1 (by omega))
        have k2 := cl_nI (show l < 48 by omega) (by decide : 48 < 2 ^ 31)
        have k3 := cl_nI hc (by decide : 240 < 2 ^ 31)
        simp only [s83_0, s83_1, s83_4, s83_7, s83_8, s83_11, s83_12, s83_15, s83_16, s83_17, s83_18, s83_21, s83_22, s83_25, s83_28, s83_29, s83_32, s83_33, s83_34, s83_35, s83_36, s83_39, s83_41, s83_42, s83_45, s83_47, s83_48, s83_51, s83_52, s83_55, s83_57, s83_59, s83_60, s83_63, s83_64, s83_67, s83_69, s83_70, s83_71, s83_74, s83_77, s83_78, s83_81, s83_82, s83_85, s83_86, s83_89, s83_90, s83_91, s83_92, s83_94, s83_97, s83_100, s83_101, s83_104, s83_105, s83_108, s83_110, s83_111, s83_114, s83_117, nl_sti, nl_str, nl_ci, nl_cr, nl_nil, ld_cons, ld_st, lr_some, li_some, lj_some, n2_nl, n2_ci, n2_cr, n2_nil, n2_sti, n2_str, tl_some, tl_none, cat_le, List.length_cons, List.length_nil, Option.bind_some, Option.bind_none, Option.map_some, cond_true, cond_false, Bool.and_true, Bool.true_and, reduceIte, Nat.reduceEqDiff, Nat.reduceAdd, Nat.reduceLeDiff, Nat.zero_add, Nat.zero_le, Nat.zero_ne_one, Nat.one_ne_zero, Nat.reduceLT, true_or, or_true, false_or, or_false, false_and, true_and, and_false, and_true, not_false_eq_true, not_true_eq_false, eq_self, mA_A, mA_I, mI_A, mI_I, b01, b10, b01n, b10n, i10, i01, im0, ei_max, ei_min, ei_obj, n30, n20, gR0_0, pR0_0, gR0_1, pR0_1, gR0_2, pR0_2, gR0_3, pR0_3, gR0_4, pR0_4, gR0_5, pR0_5, gR0_6, pR0_6, gR0_7, gR0_8, gR0_9, gR0_10, gR0_11, gR0_12, gR0_13, gR0_14, gR0_15, gR0_16, cR0, gR30_0, pR30_0, gR30_1, pR30_1, gR30_2, pR30_2, gR30_3, pR30_3, gR30_4, pR30_4, gR30_5, pR30_5, gR30_6, pR30_6, gR30_7, pR30_7, gR30_8, pR30_8, cR30, cR5, cR17, cR19, cR26, cR28, hS, c1, c2, L_indexOf, eB, hlv, L_sender_f hS hB, h3, k1, k2, k3, hcf, L_moveFirst hS (show l < 48 by omega) hs hc hcf, T_addSent hS hs, rFill]
    · simp only [s83_0, s83_1, s83_4, s83_7, s83_8, s83_11, s83_12, s83_15, s83_16, s83_17, s83_18, s83_21, s83_22, s83_25, s83_28, s83_29, s83_32, s83_33, s83_34, s83_35, s83_36, s83_39, s83_41, s83_42, s83_45, s83_47, s83_48, s83_51, s83_52, s83_55, s83_57, s83_59, s83_60, s83_63, s83_64, s83_67, s83_69, s83_70, s83_71, s83_74, s83_77, s83_78, s83_81, s83_82, s83_85, s83_86, s83_89, s83_90, s83_91, s83_92, s83_94, s83_97, s83_100, s83_101, s83_104, s83_105, s83_108, s83_110, s83_111, s83_114, s83_117, nl_sti, nl_str, nl_ci, nl_cr, nl_nil, ld_cons, ld_st, lr_some, li_some, lj_some, n2_nl, n2_ci, n2_cr, n2_nil, n2_sti, n2_str, tl_some, tl_none, cat_le, List.length_cons, List.length_nil, Option.bind_some, Option.bind_none, Option.map_some, cond_true, cond_false, Bool.and_true, Bool.true_and, reduceIte, Nat.reduceEqDiff, Nat.reduceAdd, Nat.reduceLeDiff, Nat.zero_add, Nat.zero_le, Nat.zero_ne_one, Nat.one_ne_zero, Nat.reduceLT, true_or, or_true, false_or, or_false, false_and, true_and, and_false, and_true, not_false_eq_true, not_true_eq_false, eq_self, mA_A, mA_I, mI_A, mI_I, b01, b10, b01n, b10n, i10, i01, im0, ei_max, ei_min, ei_obj, n30, n20, gR0_0, pR0_0, gR0_1, pR0_1, gR0_2, pR0_2, gR0_3, pR0_3, gR0_4, pR0_4, gR0_5, pR0_5, gR0_6, pR0_6, gR0_7, gR0_8, gR0_9, gR0_10, gR0_11, gR0_12, gR0_13, gR0_14, gR0_15, gR0_16, cR0, gR30_0, pR30_0, gR30_1, pR30_1, gR30_2, pR30_2, gR30_3, pR30_3, gR30_4, pR30_4, gR30_5, pR30_5, gR30_6, pR30_6, gR30_7, pR30_7, gR30_8, pR30_8, cR30, cR5, cR17, cR19, cR26, cR28, hS, c0, c1, rFill]
/-- the slot that comes -/
def rRecv (R : aM) (s b : Nat) : aM :=
  let hv : Int32 := if nI b = 0 then nI s - 1 else nI s
  if hv < 0 ∨ R.1 0 0 - 1 ≤ hv then rHead R b
  else if (R.1 0 5 >>> (hv &&& 31)) &&& 1 = 0 then
    (if R.1 0 1 ≤ 0 then R else hTake R ((hv.toNatClampNeg * 2 + b) * 32 + (R.1 0 6 + 1 - (R.1 0 6 + 1) / (R.1 0 1 + 1) * (R.1 0 1 + 1)).toNatClampNeg * 8))
  else slBegin R
theorem hop_in {R : aM} {n dl lv t : Nat} (ok : RowOk R n dl lv t) {s : Nat} {hv : Int32} (hs : s < n) (he : hv = nI s - 1 ∨ hv = nI s) (hh : ¬ (hv < 0 ∨ R.1 0 0 - 1 ≤ hv)) : ∃ p, p < 7 ∧ hv = nI p := by
  obtain ⟨o1, o2, -⟩ := ok
  have hm : nI n - 1 = nI (n - 1) := by
    cases n with
    | zero => omega
    | succ n => rw [nI_sub1]; rfl
  rw [o1, hm] at hh
  rcases he with rfl | rfl
  · cases s with
    | zero => exact absurd (Or.inl (by decide)) hh
    | succ s => exact ⟨s, by omega, nI_sub1 s⟩
  · refine ⟨s, ?_, rfl⟩
    rcases Nat.lt_or_ge s (n - 1) with q | q
    · omega
    · exact absurd (Or.inr (nI_le q (by omega))) hh
theorem R_receive (hS : RowSh sh a) {n dl lv t s b : Nat} (ok : RowOk R n dl lv t) (hs : s < n) (hb : b < 2) : evp sc (d + 2) 81 0 [(0, .ref a), (1, .int (nI s)), (2, .int (nI b))] [] (mk sh (gl M a 31 R)) = some (none, mk sh (gl M a 31 (rRecv R s b))) := by
  unfold rRecv
  generalize he : (if nI b = 0 then nI s - 1 else nI s) = hv
  have hv' : hv = nI s - 1 ∨ hv = nI s := by
    rw [← he]
    split
    · exact Or.inl rfl
    · exact Or.inr rfl
  simp only
  by_cases h1 : hv < 0 ∨ R.1 0 0 - 1 ≤ hv
  · rw [if_pos h1]
    exact R_receive_head hS hb he h1
  · rw [if_neg h1]
    by_cases h2 : (R.1 0 5 >>> (hv &&& 31)) &&& 1 = 0
    · rw [if_pos h2]
      by_cases h3 : R.1 0 1 ≤ 0
      · rw [if_pos h3]
        exact R_receive_same hS he ⟨h1, h2⟩ h3
      · rw [if_neg h3]
        obtain ⟨p, hp, rfl⟩ := hop_in ok hs hv' h1
        obtain ⟨o1, o2, o3, o4, o5, o6, o7, o8⟩ := ok
        have e1 : R.1 0 6 + 1 - (R.1 0 6 + 1) / (R.1 0 1 + 1) * (R.1 0 1 + 1) = nI ((t + 1) % (dl + 1)) := by
          rw [o7, o3, nI_1, nI_1]
          exact nI_rem (by omega) (by omega)
        have hq : (t + 1) % (dl + 1) < 4 := Nat.lt_of_lt_of_le (Nat.mod_lt _ (by omega)) (by omega)
        rw [e1, cl_nI hp (by decide), cl_nI hq (by decide)]
        exact R_receive_take hS hb hp hq he ⟨h1, h2⟩ h3 (by rw [o3, nI_1]; exact nI_ne0 (by omega) (by omega)) e1
    · rw [if_neg h2]
      exact R_receive_cut hS he (fun q => h2 q.2) h1
/-- the slot goes on -/
def rOn (R : aM) (s b : Nat) : aM :=
  let hv : Int32 := if nI b = 0 then nI s else nI s - 1
  if (hv < 0 ∨ R.1 0 0 - 1 ≤ hv) ∨ ¬ (R.1 0 5 >>> (hv &&& 31)) &&& 1 = 0 then tLost R (if R.1 30 1 = 0 ∨ ¬ R.1 30 6 = 0 then 0 else 1)
  else if R.1 0 1 ≤ 0 then R
  else hPut R ((hv.toNatClampNeg * 2 + b) * 32 + (R.1 0 6 - R.1 0 6 / (R.1 0 1 + 1) * (R.1 0 1 + 1)).toNatClampNeg * 8)
theorem R_sendOn (hS : RowSh sh a) {n dl lv t s b : Nat} (ok : RowOk R n dl lv t) (hs : s < n) (hb : b < 2) : evp sc (d + 2) 86 0 [(0, .ref a), (1, .int (nI s)), (2, .int (nI b))] [] (mk sh (gl M a 31 R)) = some (none, mk sh (gl M a 31 (rOn R s b))) := by
  unfold rOn
  generalize he : (if nI b = 0 then nI s else nI s - 1) = hv
  have hv' : hv = nI s - 1 ∨ hv = nI s := by
    rw [← he]
    split
    · exact Or.inr rfl
    · exact Or.inl rfl
  simp only
  by_cases h1 : (hv < 0 ∨ R.1 0 0 - 1 ≤ hv) ∨ ¬ (R.1 0 5 >>> (hv &&& 31)) &&& 1 = 0
  · rw [if_pos h1]
    exact R_sendOn_lost hS he (fun q => h1.elim q.1 (fun z => z q.2))
  · rw [if_neg h1]
    have h2 : ¬ (hv < 0 ∨ R.1 0 0 - 1 ≤ hv) := fun q => h1 (Or.inl q)
    have h3 : (R.1 0 5 >>> (hv &&& 31)) &&& 1 = 0 := Decidable.not_not.mp (fun q => h1 (Or.inr q))
    by_cases h4 : R.1 0 1 ≤ 0
    · rw [if_pos h4]
      exact R_sendOn_stay hS he ⟨h2, h3⟩ h4
    · rw [if_neg h4]
      obtain ⟨p, hp, rfl⟩ := hop_in ok hs hv' h2
      obtain ⟨o1, o2, o3, o4, o5, o6, o7, o8⟩ := ok
      have e1 : R.1 0 6 - R.1 0 6 / (R.1 0 1 + 1) * (R.1 0 1 + 1) = nI (t % (dl + 1)) := by
        rw [o7, o3, nI_1]
        exact nI_rem (by omega) (by omega)
      have hq : t % (dl + 1) < 4 := Nat.lt_of_lt_of_le (Nat.mod_lt _ (by omega)) (by omega)
      rw [e1, cl_nI hp (by decide), cl_nI hq (by decide)]
      exact R_sendOn_put hS hb hp hq he ⟨h2, h3⟩ h4 (by rw [o3, nI_1]; exact nI_ne0 (by omega) (by omega)) e1
/-- a slot is read, and emptied -/
def rReadAt (R : aM) (s : Nat) : aM :=
  if (R.1 30 1 = 0 ∨ ¬ R.1 30 6 = 0) ∨ ¬ R.1 30 3 = nI s then rErase R s
  else rErase (rDeliver R s (R.1 30 2).toNatClampNeg (tdPl (tdOpen R 28) 28 0).toNatClampNeg) s
theorem R_readAt (hS : RowSh sh a) {s P : Nat} (hs : s < 8) (hP : tdPl (tdOpen R 28) 28 0 = nI P) (hp : P + 4 < 200) (hfr : ¬ (R.1 30 1 = 0 ∨ ¬ R.1 30 6 = 0) → ∃ f, f < 8 ∧ R.1 30 2 = nI f) : evp sc (d + 3) 82 0 [(0, .ref a), (1, .int (nI s))] [] (mk sh (gl M a 31 R)) = some (none, mk sh (gl M a 31 (rReadAt R s))) := by
  unfold rReadAt
  by_cases h1 : (R.1 30 1 = 0 ∨ ¬ R.1 30 6 = 0) ∨ ¬ R.1 30 3 = nI s
  · rw [if_pos h1]
    exact R_readAt_no (d := d + 2) hS h1
  · rw [if_neg h1]
    have h2 : ¬ (R.1 30 1 = 0 ∨ ¬ R.1 30 6 = 0) := fun q => h1 (Or.inl q)
    have h3 : R.1 30 3 = nI s := Decidable.not_not.mp (fun q => h1 (Or.inr q))
    obtain ⟨f, hf, hff⟩ := hfr h2
    rw [hP, hff, cl_nI hf (by decide), nI_clamp (show P < 2 ^ 31 by omega)]
    exact R_readAt_yes hS hs hf h2 h3 hff hP hp
end
