/-! AN ACT THAT MAY BE, both alike, and told -/
theorem mRem_I (W : aM) (f : Nat → Int32) (c st : Nat) {j : Nat} (h1 : ¬ j = 18) (h2 : ¬ j = 19) : (mRem W f c st).1 0 j = W.1 0 j := by
  unfold mRem
  rw [mR_I]
  split
  · rw [mI_At, if_neg h1]
  · rw [mI_At, if_neg h2]
theorem mRem_A (W : aM) (f : Nat → Int32) (c st : Nat) {k : Nat} (h : ¬ k = 11) : (mRem W f c st).2.1 k = W.2.1 k := by
  unfold mRem
  rw [mR_o h]
  split <;> rfl
theorem cW.rem {W : aM} {f : Nat → Int32} {n dl bal lv c st : Nat} (h : cW W n dl bal lv) : cW (mRem W f c st) n dl bal lv := by
  unfold cW at h ⊢
  rw [mRem_I W f c st (by decide) (by decide), mRem_A W f c st (by decide)]
  exact h
theorem cW.thr {W : aM} {n dl bal lv : Nat} {v : Int32} (h : cW W n dl bal lv) : cW (mI W 0 0 v) n dl bal lv := by
  unfold cW at h ⊢
  rw [mI_At, if_neg (by decide)]
  exact h
theorem stF_ag {n lv t : Nat} {cuts : Int32} {wl : Nat → List Sg} {ev ho : Nat → Int32} {k : Nat} {x y v m y' v' m' : Int32} (h : AgS k y v m y' v' m') : stF n lv t cuts wl ev ho k x y' v' m' = stF n lv t cuts wl ev ho k x y v m := by
  rcases h with ⟨rfl, rfl, rfl⟩ | ⟨h1, h2⟩
  · rfl
  · rcases (show k = 1 ∨ k = 2 ∨ k = 3 ∨ k = 4 by omega) with rfl | rfl | rfl | rfl <;> simp only [stF]
theorem AgS.no {k : Nat} {x y v m y' v' m' : Int32} (h : AgS k y v m y' v' m') (hk : k ≤ 6) : (if nI k = 6 then y' else x) = (if nI k = 6 then y else x) := by
  rcases h with ⟨rfl, rfl, rfl⟩ | ⟨h1, h2⟩
  · rfl
  · have n6 : ¬ nI k = 6 := fun z => by
      have := (nI_eq (b := 6) (by omega) (by decide)).mp z
      omega
    rw [if_neg n6, if_neg n6]
section
variable {sc sc2 : aS} {d d2 : Nat} {sh sh2 : List sE} {M M2 W R : aM} {a a2 : Nat} {f : Nat → Int32} {n dl bal lv t B : Nat} {wl : Nat → List Sg} {al l : List (Nat → Int32)} {Ln : Nat → List (Option Se)}
theorem S_act (hS : RowSh sh a) (hS2 : ModSh sh2 a2) {k c st : Nat} {x y v m y' v' m' : Int32} (hy : AgS k y v m y' v' m') (hk : k ≤ 6) (h : RI R f n dl bal lv t B wl al (f, l, f) Ln) (hW : cW W n dl bal lv) (ht : t ≤ 9999) (hB : B + 25000 < 2 ^ 31) (hc : c ≤ 40) (hst : st < 40) (h19 : W.1 0 19 = nI c) (h18 : W.1 0 18 = nI st) (hf : stF n lv t (f 1550) wl (R.2.1 2) (R.2.1 1) k x y v m = -1) :
    ∃ R2 f2 W2 ans t1 wl1 al1 l1 Ln1, evp sc (d + 6) 71 0 [(0, .ref a), (1, .int (nI k)), (2, .int x), (3, .int y), (4, .int v), (5, .int m)] [] (mk sh (gl M a 31 R)) = some (some (.int ans), mk sh (gl M a 31 R2)) ∧
      evp sc2 (d2 + 11) 240 0 [(0, .ref a2), (1, .int (nI k)), (2, .int x), (3, .int y'), (4, .int v'), (5, .int m')] [] (mk sh2 (gl M2 a2 15 (mR W 8 f))) = some (some (.int (-1)), mk sh2 (gl M2 a2 15 (mR W2 8 f2))) ∧ W2.1 0 33 = ans ∧
      FrG (mRem W f c st) W2 ∧ t ≤ t1 ∧ t1 ≤ 9999 ∧ RI R2 f2 n dl bal lv t1 (B + 25000) wl1 al1 (f2, l1, f2) Ln1 := by
  have hw : isW 8 := Or.inl rfl
  have hn8 : n ≤ 8 := h.1.1.2.1
  have hW1 : cW (mRem W f c st) n dl bal lv := hW.rem
  obtain ⟨R1, f1, W1, ans, t1, wl1, al1, Ln1, q1, q2, q3, q4, q5, q6, q7⟩ := S_does (sc := sc) (sc2 := sc2) (d := d) (d2 := d2 + 1) (M := M) (M2 := M2) hS hS2 hw hk h hW1 ht hB hf
  have hlen : f1 1741 = nI l.length ∧ l.length ≤ 60 := by
    have h9 := q7.2.2.2.2.2.2.2.1
    have e := h9.2 0 (by omega)
    obtain ⟨st', a1, a2, a3, a4, a5, a6, a7, a8⟩ := h9.1
    exact ⟨e.trans a7, a6⟩
  have q8 := S_anchor q7
  obtain ⟨P, p1, p2, p3⟩ := S_log q8 (nI k) (if nI k = 6 then y else x)
  have p4 := S_told p3 (fun j hj => mNote_lo hj)
  have tail := R_tail (sc := sc) (d := d) (M := M) (R := R1) (k := nI k) (x := x) (y := y) (v := ans) (L := e_st1 (e_st1 [(0, .ref a), (1, .int (nI k)), (2, .int x), (3, .int y), (4, .int v), (5, .int m)] 6 (.int (-1))) 6 (.int ans)) hS p1 p2 (by simp (maxDischargeDepth := 9) only [nl_sti, nl_str, nl_ci, nl_cr, nl_nil, ld_cons, ld_st, lr_some, li_some, lj_some, n2_nl, n2_ci, n2_cr, n2_nil, n2_sti, n2_str, tl_some, tl_none, cat_le, List.length_cons, List.length_nil, Option.bind_some, Option.bind_none, Option.map_some, cond_true, cond_false, Bool.and_true, Bool.true_and, reduceIte, Nat.reduceEqDiff, Nat.reduceAdd, Nat.reduceLeDiff, Nat.zero_add, Nat.zero_le, Nat.zero_ne_one, Nat.one_ne_zero, Nat.reduceLT, true_or, or_true, false_or, or_false, false_and, true_and, and_false, and_true, not_false_eq_true, not_true_eq_false, eq_self, mA_A, mA_I, mI_A, mI_I, b01, b10, b01n, b10n, i10, i01, im0, ei_max, ei_min, ei_obj, n30, n20]) (by simp only [nl_sti, nl_str, nl_ci, nl_cr, nl_nil, ld_cons, ld_st, lr_some, li_some, lj_some, n2_nl, n2_ci, n2_cr, n2_nil, n2_sti, n2_str, tl_some, tl_none, cat_le, List.length_cons, List.length_nil, Option.bind_some, Option.bind_none, Option.map_some, cond_true, cond_false, Bool.and_true, Bool.true_and, reduceIte, Nat.reduceEqDiff, Nat.reduceAdd, Nat.reduceLeDiff, Nat.zero_add, Nat.zero_le, Nat.zero_ne_one, Nat.one_ne_zero, Nat.reduceLT, true_or, or_true, false_or, or_false, false_and, true_and, and_false, and_true, not_false_eq_true, not_true_eq_false, eq_self, mA_A, mA_I, mI_A, mI_I, b01, b10, b01n, b10n, i10, i01, im0, ei_max, ei_min, ei_obj, n30, n20]) (by simp only [nl_sti, nl_str, nl_ci, nl_cr, nl_nil, ld_cons, ld_st, lr_some, li_some, lj_some, n2_nl, n2_ci, n2_cr, n2_nil, n2_sti, n2_str, tl_some, tl_none, cat_le, List.length_cons, List.length_nil, Option.bind_some, Option.bind_none, Option.map_some, cond_true, cond_false, Bool.and_true, Bool.true_and, reduceIte, Nat.reduceEqDiff, Nat.reduceAdd, Nat.reduceLeDiff, Nat.zero_add, Nat.zero_le, Nat.zero_ne_one, Nat.one_ne_zero, Nat.reduceLT, true_or, or_true, false_or, or_false, false_and, true_and, and_false, and_true, not_false_eq_true, not_true_eq_false, eq_self, mA_A, mA_I, mI_A, mI_I, b01, b10, b01n, b10n, i10, i01, im0, ei_max, ei_min, ei_obj, n30, n20]) (by simp only [nl_sti, nl_str, nl_ci, nl_cr, nl_nil, ld_cons, ld_st, lr_some, li_some, lj_some, n2_nl, n2_ci, n2_cr, n2_nil, n2_sti, n2_str, tl_some, tl_none, cat_le, List.length_cons, List.length_nil, Option.bind_some, Option.bind_none, Option.map_some, cond_true, cond_false, Bool.and_true, Bool.true_and, reduceIte, Nat.reduceEqDiff, Nat.reduceAdd, Nat.reduceLeDiff, Nat.zero_add, Nat.zero_le, Nat.zero_ne_one, Nat.one_ne_zero, Nat.reduceLT, true_or, or_true, false_or, or_false, false_and, true_and, and_false, and_true, not_false_eq_true, not_true_eq_false, eq_self, mA_A, mA_I, mI_A, mI_I, b01, b10, b01n, b10n, i10, i01, im0, ei_max, ei_min, ei_obj, n30, n20]) (by simp only [nl_sti, nl_str, nl_ci, nl_cr, nl_nil, ld_cons, ld_st, lr_some, li_some, lj_some, n2_nl, n2_ci, n2_cr, n2_nil, n2_sti, n2_str, tl_some, tl_none, cat_le, List.length_cons, List.length_nil, Option.bind_some, Option.bind_none, Option.map_some, cond_true, cond_false, Bool.and_true, Bool.true_and, reduceIte, Nat.reduceEqDiff, Nat.reduceAdd, Nat.reduceLeDiff, Nat.zero_add, Nat.zero_le, Nat.zero_ne_one, Nat.one_ne_zero, Nat.reduceLT, true_or, or_true, false_or, or_false, false_and, true_and, and_false, and_true, not_false_eq_true, not_true_eq_false, eq_self, mA_A, mA_I, mI_A, mI_I, b01, b10, b01n, b10n, i10, i01, im0, ei_max, ei_min, ei_obj, n30, n20]) (by simp only [nl_sti, nl_str, nl_ci, nl_cr, nl_nil, ld_cons, ld_st, lr_some, li_some, lj_some, n2_nl, n2_ci, n2_cr, n2_nil, n2_sti, n2_str, tl_some, tl_none, cat_le, List.length_cons, List.length_nil, Option.bind_some, Option.bind_none, Option.map_some, cond_true, cond_false, Bool.and_true, Bool.true_and, reduceIte, Nat.reduceEqDiff, Nat.reduceAdd, Nat.reduceLeDiff, Nat.zero_add, Nat.zero_le, Nat.zero_ne_one, Nat.one_ne_zero, Nat.reduceLT, true_or, or_true, false_or, or_false, false_and, true_and, and_false, and_true, not_false_eq_true, not_true_eq_false, eq_self, mA_A, mA_I, mI_A, mI_I, b01, b10, b01n, b10n, i10, i01, im0, ei_max, ei_min, ei_obj, n30, n20])
  have hcW1 : cW W1 n dl bal lv := hW1.g q4
  have note := M_notes (sc := sc2) (d := d2 + 9) (M := M2) (W := W1) (f := f1) (k := nI k) (x := if nI k = 6 then y else x) (z := nI (tot wl1)) hS2 hw rfl hlen.2 hlen.1 (fun f' hf' => M_waiting (R := R1) (lv := lv) hS2 hw hn8 hcW1.1 (q7.2.2.2.2.1.cg rfl (fun _ _ _ => rfl) (fun j hj => hf' j (by omega)) (fun j hj => hf' _ (by omega))))
  have stp := M_stops (sc := sc2) (d := d2 + 7) (M := M2) (W := W) (x := x) (y := y') (v := v') (m := m') hS2 hw h hW hk
  rw [stF_ag hy, hf] at stp
  have rem := M_remember (sc := sc2) (d := d2 + 9) (M := M2) (W := W) (f := f) hS2 hc hst h19 h18
  rw [← hy.no hk] at note
  have tr := M_tries_yes (sc := sc2) (d := d2) hS2 stp rem (q2 y' v' m' hy) note
  rw [hy.no hk] at tr
  exact ⟨_, _, W1, ans, t1, wl1, al1, _, Ln1, q1.trans tail, tr, q3, q4, q5, q6, p4⟩
end
