theorem QX.ex {A : Nat → Nat → Int32} {fre : Int32} {qq : Nat → List Sg} {cs : Nat → List Nat} {fr : List Nat} {own : Nat → Nat} {N : Nat} (h : QX A fre qq cs fr own N 48) (l : Nat) : QX A fre qq cs fr own N l := by
  obtain ⟨h1, h2⟩ := h
  exact ⟨fun l' hl' => ⟨(h1 l' hl').1, (h1 l' hl').2.1, fun _ => (h1 l' hl').2.2 (by omega)⟩, h2⟩
section
variable {sc : aS} {d : Nat} {sh : List sE} {M R : aM} {a : Nat}
theorem R_remove (hS : RowSh sh a) {l s g : Nat} (hl : l < 48) (hs : s < 8) (hg : g < 8) {qq : Nat → List Sg} {cs : Nat → List Nat} {fr : List Nat} {own : Nat → Nat} {N : Nat} (hX : QX R.2.1 (R.1 5 11) qq cs fr own N 48) (h8 : ∀ y, y ∈ qq l → y.2.1 < 8) (h240 : (qq l).length ≤ 240) :
    ∃ R', evp sc (d + 1) 27 0 [(0, .ref (a + 5)), (1, .int (nI l)), (2, .int (nI s)), (3, .int (nI g))] [] (mk sh (gl M a 31 R)) = some (none, mk sh (gl M a 31 R')) ∧ (∃ cs' fr' own', QX R'.2.1 (R'.1 5 11) (upl qq l (tlK g (qq l))) cs' fr' own' (N + (qq l).tail.countP (fun y => decide (y.2.1 = g))) 48) ∧ R'.2.1 16 = up (R.2.1 16) s (R.2.1 16 s - nI ((qq l).tail.countP (fun y => decide (y.2.1 = g)))) ∧ R'.1 5 12 = R.1 5 12 - nI ((qq l).tail.countP (fun y => decide (y.2.1 = g))) ∧ (∀ j, ¬ j = 5 → R'.1 j = R.1 j) ∧ (∀ j, ¬ (j = 9 ∨ j = 11 ∨ j = 15 ∨ j = 16) → R'.2.1 j = R.2.1 j) := by
  have i1 := in_nI hl (by decide : 48 < 2 ^ 31)
  have i2 := cl_nI hl (by decide : 48 < 2 ^ 31)
  obtain ⟨⟨q1, q2, q3, q4, q6, q7⟩, hown, -⟩ := hX.1 l hl
  have hlen : (cs l).length = (qq l).length := by
    have := congrArg List.length q7
    rw [List.length_map, List.length_map] at this
    exact this
  cases hcs : cs l with
  | nil =>
    rw [hcs, List.length_nil] at hlen
    have hqq : qq l = [] := List.length_eq_zero_iff.mp hlen.symm
    have q6' : R.2.1 9 l = nI 0 := by rw [q6, hcs]; rfl
    have c1 : nI 0 ≤ 1 := by decide
    rw [hqq]
    refine ⟨mA R 11 l (R.2.1 10 l), ?_, ⟨cs, fr, own, ?_⟩, ?_, (Int32.sub_zero _).symm, fun _ _ => rfl, fun j hj => mA_o (by omega)⟩
    · simp only [s27_0, s27_1, s27_4, s27_5, s27_6, s27_8, s27_9, s27_12, s27_13, s27_14, s27_16, s27_17, s27_19, s27_21, s27_23, s27_26, s27_28, s27_31, s27_34, s27_35, s27_38, s27_40, s27_41, s27_43, s27_45, s27_48, s27_51, s27_52, s27_55, s27_57, s27_58, s27_59, s27_62, s27_63, s27_66, s27_68, s27_69, s27_72, s27_74, s27_75, s27_76, s27_77, s27_79, s27_80, s27_83, s27_84, s27_87, s27_88, s27_89, s27_90, s27_91, s27_92, s27_93, s27_96, s27_98, s27_100, s27_103, s27_106, s27_107, s27_110, s27_111, s27_113, s27_114, nl_sti, nl_str, nl_ci, nl_cr, nl_nil, ld_cons, ld_st, lr_some, li_some, lj_some, n2_nl, n2_ci, n2_cr, n2_nil, n2_sti, n2_str, tl_some, tl_none, cat_le, List.length_cons, List.length_nil, Option.bind_some, Option.bind_none, Option.map_some, cond_true, cond_false, Bool.and_true, Bool.true_and, reduceIte, Nat.reduceEqDiff, Nat.reduceAdd, Nat.reduceLeDiff, Nat.zero_add, Nat.zero_le, Nat.zero_ne_one, Nat.one_ne_zero, Nat.reduceLT, true_or, or_true, false_or, or_false, false_and, true_and, and_false, and_true, not_false_eq_true, not_true_eq_false, eq_self, mA_A, mA_I, mI_A, mI_I, b01, b10, b01n, b10n, i10, i01, im0, ei_max, ei_min, ei_obj, n30, n20, b011, b101, orn, nor, dneg, dnle, dne, dcl, cat0, cat1, cat2, cat3, cat4, gR5_0, gR5_1, gR5_2, gR5_3, gR5_4, gR5_5, gR5_6, gR5_7, gR5_8, gR5_9, gR5_10, gR5_11, pR5_11, gR5_12, pR5_12, cR5, aR9, wR9, aR10, wR10, aR11, wR11, cR0, cR17, cR19, cR26, cR28, cR30, hS, i1, i2, q6', c1]
    · show QX _ _ (upl qq l []) _ _ _ _ _
      rw [upl_id qq l [] hqq]
      exact QX_last (v := R.2.1 10 l) (hX.ex l) (fun r c hr => by rw [hcs] at hr; simp at hr) (mA_up _ _ _ _) (fun k hk => mA_o hk)
    · rw [mA_o (by decide)]
      funext j
      unfold up
      split
      · rename_i e; rw [e]; exact (Int32.sub_zero _).symm
      · rfl
  | cons p rest =>
    cases hq : qq l with
    | nil => rw [hcs, hq] at hlen; simp at hlen
    | cons x qr =>
      rw [hcs, List.length_cons] at hlen
      have hfirst : R.2.1 10 l = nI p := by rw [q4 (by rw [hcs]; simp), hcs]; rfl
      have h9 : R.2.1 9 l = nI (rest.length + 1) := by rw [q6, hcs]; rfl
      obtain ⟨R', g1, g2, g3, g4, g5, g6⟩ := R_rm_loop (sc := sc) (d := d) (M := M) (th := rest.length + 1) hS hl hs hg (by omega) rest qr [] p [] x R qq cs fr own N 1 (e_st1 (e_st1 (e_st1 [(0, .ref (a + 5)), (1, .int (nI l)), (2, .int (nI s)), (3, .int (nI g))] 4 (.int (nI (rest.length + 1)))) 5 (.int (nI p))) 6 (.int 1)) (hX.ex l) hcs hq rfl (fun z hz => h8 z (by rw [hq]; exact List.mem_cons_of_mem _ hz)) (by omega) (by simp (maxDischargeDepth := 9) only [nl_sti, nl_str, nl_ci, nl_cr, nl_nil, ld_cons, ld_st, lr_some, li_some, lj_some, n2_nl, n2_ci, n2_cr, n2_nil, n2_sti, n2_str, tl_some, tl_none, cat_le, List.length_cons, List.length_nil, Option.bind_some, Option.bind_none, Option.map_some, cond_true, cond_false, Bool.and_true, Bool.true_and, reduceIte, Nat.reduceEqDiff, Nat.reduceAdd, Nat.reduceLeDiff, Nat.zero_add, Nat.zero_le, Nat.zero_ne_one, Nat.one_ne_zero, Nat.reduceLT, true_or, or_true, false_or, or_false, false_and, true_and, and_false, and_true, not_false_eq_true, not_true_eq_false, eq_self, mA_A, mA_I, mI_A, mI_I, b01, b10, b01n, b10n, i10, i01, im0, ei_max, ei_min, ei_obj, n30, n20]) (by simp only [nl_sti, nl_str, nl_ci, nl_cr, nl_nil, ld_cons, ld_st, lr_some, li_some, lj_some, n2_nl, n2_ci, n2_cr, n2_nil, n2_sti, n2_str, tl_some, tl_none, cat_le, List.length_cons, List.length_nil, Option.bind_some, Option.bind_none, Option.map_some, cond_true, cond_false, Bool.and_true, Bool.true_and, reduceIte, Nat.reduceEqDiff, Nat.reduceAdd, Nat.reduceLeDiff, Nat.zero_add, Nat.zero_le, Nat.zero_ne_one, Nat.one_ne_zero, Nat.reduceLT, true_or, or_true, false_or, or_false, false_and, true_and, and_false, and_true, not_false_eq_true, not_true_eq_false, eq_self, mA_A, mA_I, mI_A, mI_I, b01, b10, b01n, b10n, i10, i01, im0, ei_max, ei_min, ei_obj, n30, n20]) (by simp only [nl_sti, nl_str, nl_ci, nl_cr, nl_nil, ld_cons, ld_st, lr_some, li_some, lj_some, n2_nl, n2_ci, n2_cr, n2_nil, n2_sti, n2_str, tl_some, tl_none, cat_le, List.length_cons, List.length_nil, Option.bind_some, Option.bind_none, Option.map_some, cond_true, cond_false, Bool.and_true, Bool.true_and, reduceIte, Nat.reduceEqDiff, Nat.reduceAdd, Nat.reduceLeDiff, Nat.zero_add, Nat.zero_le, Nat.zero_ne_one, Nat.one_ne_zero, Nat.reduceLT, true_or, or_true, false_or, or_false, false_and, true_and, and_false, and_true, not_false_eq_true, not_true_eq_false, eq_self, mA_A, mA_I, mI_A, mI_I, b01, b10, b01n, b10n, i10, i01, im0, ei_max, ei_min, ei_obj, n30, n20]) (by simp only [nl_sti, nl_str, nl_ci, nl_cr, nl_nil, ld_cons, ld_st, lr_some, li_some, lj_some, n2_nl, n2_ci, n2_cr, n2_nil, n2_sti, n2_str, tl_some, tl_none, cat_le, List.length_cons, List.length_nil, Option.bind_some, Option.bind_none, Option.map_some, cond_true, cond_false, Bool.and_true, Bool.true_and, reduceIte, Nat.reduceEqDiff, Nat.reduceAdd, Nat.reduceLeDiff, Nat.zero_add, Nat.zero_le, Nat.zero_ne_one, Nat.one_ne_zero, Nat.reduceLT, true_or, or_true, false_or, or_false, false_and, true_and, and_false, and_true, not_false_eq_true, not_true_eq_false, eq_self, mA_A, mA_I, mI_A, mI_I, b01, b10, b01n, b10n, i10, i01, im0, ei_max, ei_min, ei_obj, n30, n20]) (by simp only [nl_sti, nl_str, nl_ci, nl_cr, nl_nil, ld_cons, ld_st, lr_some, li_some, lj_some, n2_nl, n2_ci, n2_cr, n2_nil, n2_sti, n2_str, tl_some, tl_none, cat_le, List.length_cons, List.length_nil, Option.bind_some, Option.bind_none, Option.map_some, cond_true, cond_false, Bool.and_true, Bool.true_and, reduceIte, Nat.reduceEqDiff, Nat.reduceAdd, Nat.reduceLeDiff, Nat.zero_add, Nat.zero_le, Nat.zero_ne_one, Nat.one_ne_zero, Nat.reduceLT, true_or, or_true, false_or, or_false, false_and, true_and, and_false, and_true, not_false_eq_true, not_true_eq_false, eq_self, mA_A, mA_I, mI_A, mI_I, b01, b10, b01n, b10n, i10, i01, im0, ei_max, ei_min, ei_obj, n30, n20]) (by simp only [nl_sti, nl_str, nl_ci, nl_cr, nl_nil, ld_cons, ld_st, lr_some, li_some, lj_some, n2_nl, n2_ci, n2_cr, n2_nil, n2_sti, n2_str, tl_some, tl_none, cat_le, List.length_cons, List.length_nil, Option.bind_some, Option.bind_none, Option.map_some, cond_true, cond_false, Bool.and_true, Bool.true_and, reduceIte, Nat.reduceEqDiff, Nat.reduceAdd, Nat.reduceLeDiff, Nat.zero_add, Nat.zero_le, Nat.zero_ne_one, Nat.one_ne_zero, Nat.reduceLT, true_or, or_true, false_or, or_false, false_and, true_and, and_false, and_true, not_false_eq_true, not_true_eq_false, eq_self, mA_A, mA_I, mI_A, mI_I, b01, b10, b01n, b10n, i10, i01, im0, ei_max, ei_min, ei_obj, n30, n20]) (by simp only [nl_sti, nl_str, nl_ci, nl_cr, nl_nil, ld_cons, ld_st, lr_some, li_some, lj_some, n2_nl, n2_ci, n2_cr, n2_nil, n2_sti, n2_str, tl_some, tl_none, cat_le, List.length_cons, List.length_nil, Option.bind_some, Option.bind_none, Option.map_some, cond_true, cond_false, Bool.and_true, Bool.true_and, reduceIte, Nat.reduceEqDiff, Nat.reduceAdd, Nat.reduceLeDiff, Nat.zero_add, Nat.zero_le, Nat.zero_ne_one, Nat.one_ne_zero, Nat.reduceLT, true_or, or_true, false_or, or_false, false_and, true_and, and_false, and_true, not_false_eq_true, not_true_eq_false, eq_self, mA_A, mA_I, mI_A, mI_I, b01, b10, b01n, b10n, i10, i01, im0, ei_max, ei_min, ei_obj, n30, n20]) (by simp only [nl_sti, nl_str, nl_ci, nl_cr, nl_nil, ld_cons, ld_st, lr_some, li_some, lj_some, n2_nl, n2_ci, n2_cr, n2_nil, n2_sti, n2_str, tl_some, tl_none, cat_le, List.length_cons, List.length_nil, Option.bind_some, Option.bind_none, Option.map_some, cond_true, cond_false, Bool.and_true, Bool.true_and, reduceIte, Nat.reduceEqDiff, Nat.reduceAdd, Nat.reduceLeDiff, Nat.zero_add, Nat.zero_le, Nat.zero_ne_one, Nat.one_ne_zero, Nat.reduceLT, true_or, or_true, false_or, or_false, false_and, true_and, and_false, and_true, not_false_eq_true, not_true_eq_false, eq_self, mA_A, mA_I, mI_A, mI_I, b01, b10, b01n, b10n, i10, i01, im0, ei_max, ei_min, ei_obj, n30, n20] <;> rfl)
      refine ⟨R', ?_, g2, g3, g4, g5, g6⟩
      rw [← g1]
      simp only [s27_0, s27_1, s27_4, s27_5, s27_6, s27_8, s27_9, s27_12, s27_13, s27_14, s27_16, s27_17, s27_21, s27_23, s27_26, s27_28, s27_31, s27_34, s27_35, s27_38, s27_40, s27_41, s27_43, s27_45, s27_48, s27_51, s27_52, s27_55, s27_57, s27_58, s27_59, s27_62, s27_63, s27_66, s27_68, s27_69, s27_72, s27_74, s27_75, s27_76, s27_77, s27_79, s27_80, s27_83, s27_84, s27_87, s27_88, s27_89, s27_90, s27_91, s27_92, s27_93, s27_96, s27_98, s27_100, s27_103, s27_106, s27_107, s27_110, s27_111, s27_113, s27_114, nl_sti, nl_str, nl_ci, nl_cr, nl_nil, ld_cons, ld_st, lr_some, li_some, lj_some, n2_nl, n2_ci, n2_cr, n2_nil, n2_sti, n2_str, tl_some, tl_none, cat_le, List.length_cons, List.length_nil, Option.bind_some, Option.bind_none, Option.map_some, cond_true, cond_false, Bool.and_true, Bool.true_and, reduceIte, Nat.reduceEqDiff, Nat.reduceAdd, Nat.reduceLeDiff, Nat.zero_add, Nat.zero_le, Nat.zero_ne_one, Nat.one_ne_zero, Nat.reduceLT, true_or, or_true, false_or, or_false, false_and, true_and, and_false, and_true, not_false_eq_true, not_true_eq_false, eq_self, mA_A, mA_I, mI_A, mI_I, b01, b10, b01n, b10n, i10, i01, im0, ei_max, ei_min, ei_obj, n30, n20, b011, b101, orn, nor, dneg, dnle, dne, dcl, cat0, cat1, cat2, cat3, cat4, gR5_0, gR5_1, gR5_2, gR5_3, gR5_4, gR5_5, gR5_6, gR5_7, gR5_8, gR5_9, gR5_10, gR5_11, pR5_11, gR5_12, pR5_12, cR5, aR9, wR9, aR10, wR10, cR0, cR17, cR19, cR26, cR28, cR30, hS, i1, i2, h9, hfirst]
def qqk (g B : Nat) (qq : Nat → List Sg) (k j : Nat) : Nat → List Sg := fun l => if B + j ≤ l ∧ l < B + j + k then tlK g (qq l) else qq l
theorem R_co_loop (hS : RowSh sh a) {s g lv B : Nat} {n : Int32} (hs : s < 8) (hg : g < 8) (hlv : lv ≤ 3) (hB : B + 3 ≤ 48) : ∀ (k j : Nat) (R : aM) (qq : Nat → List Sg) (cs : Nat → List Nat) (fr : List Nat) (own : Nat → Nat) (N : Nat) (L : aL), j + k = lv → R.1 0 3 = nI lv → QX R.2.1 (R.1 5 11) qq cs fr own N 48 → (∀ v y, v < lv → y ∈ qq (B + v) → y.2.1 < 8) → (∀ v, v < lv → (qq (B + v)).length ≤ 240) → e_n2 L → e_ld L 0 = some (.ref a) → e_ld L 1 = some (.int (nI s)) → e_ld L 2 = some (.int (nI g)) → e_ld L 3 = some (.int n) → e_ld L 4 = some (.int (nI B)) → e_ld L 5 = some (.int (nI j)) →
    ∃ R', evp sc (d + 2) 75 22 L [] (mk sh (gl M a 31 R)) = some (some (.int n), mk sh (gl M a 31 R')) ∧ (∃ cs' fr' own', QX R'.2.1 (R'.1 5 11) (qqk g B qq k j) cs' fr' own' (N + sumK (fun v => (qq (B + v)).tail.countP (fun y => decide (y.2.1 = g))) k j) 48) ∧ R'.2.1 16 = up (R.2.1 16) s (R.2.1 16 s - nI (sumK (fun v => (qq (B + v)).tail.countP (fun y => decide (y.2.1 = g))) k j)) ∧ R'.1 5 12 = R.1 5 12 - nI (sumK (fun v => (qq (B + v)).tail.countP (fun y => decide (y.2.1 = g))) k j) ∧ (∀ j, ¬ j = 5 → R'.1 j = R.1 j) ∧ (∀ j, ¬ (j = 9 ∨ j = 11 ∨ j = 15 ∨ j = 16) → R'.2.1 j = R.2.1 j)
  | 0, j, R, qq, cs, fr, own, N, L, hj, h3', hX, h8, h240, hL, h0, h1, h2, h3, h4, h5 => by
    have c1 : (nI lv ≤ nI j) = True := eq_true (nI_le (by omega) (by omega))
    refine ⟨R, ?_, ⟨cs, fr, own, ?_⟩, ?_, (Int32.sub_zero _).symm, fun _ _ => rfl, fun _ _ => rfl⟩
    · rw [s75_22]
      simp only [s75_0, s75_1, s75_2, s75_3, s75_6, s75_7, s75_8, s75_9, s75_10, s75_13, s75_14, s75_17, s75_19, s75_20, s75_24, s75_25, s75_28, s75_31, s75_32, s75_35, s75_37, s75_39, s75_40, s75_41, s75_42, s75_45, s75_48, s75_51, s75_52, nl_sti, nl_str, nl_ci, nl_cr, nl_nil, ld_cons, ld_st, lr_some, li_some, lj_some, n2_nl, n2_ci, n2_cr, n2_nil, n2_sti, n2_str, tl_some, tl_none, cat_le, List.length_cons, List.length_nil, Option.bind_some, Option.bind_none, Option.map_some, cond_true, cond_false, Bool.and_true, Bool.true_and, reduceIte, Nat.reduceEqDiff, Nat.reduceAdd, Nat.reduceLeDiff, Nat.zero_add, Nat.zero_le, Nat.zero_ne_one, Nat.one_ne_zero, Nat.reduceLT, true_or, or_true, false_or, or_false, false_and, true_and, and_false, and_true, not_false_eq_true, not_true_eq_false, eq_self, mA_A, mA_I, mI_A, mI_I, b01, b10, b01n, b10n, i10, i01, im0, ei_max, ei_min, ei_obj, n30, n20, b011, b101, orn, nor, dneg, dnle, dne, dcl, cat0, cat1, cat2, cat3, cat4, gR0_0, pR0_0, gR0_1, pR0_1, gR0_2, pR0_2, gR0_3, pR0_3, gR0_4, pR0_4, gR0_5, pR0_5, gR0_6, pR0_6, gR0_7, gR0_8, gR0_9, gR0_10, gR0_11, gR0_12, gR0_13, gR0_14, gR0_15, gR0_16, cR0, cR5, cR17, cR19, cR26, cR28, cR30, hS, hL, h0, h1, h2, h3, h4, h5, h3', c1]
    · have : qqk g B qq 0 j = qq := by funext l; unfold qqk; rw [if_neg (by omega)]
      rw [this]
      exact hX
    · funext i
      unfold up
      split
      · rename_i e; rw [e]; exact (Int32.sub_zero _).symm
      · rfl
  | k + 1, j, R, qq, cs, fr, own, N, L, hj, h3', hX, h8, h240, hL, h0, h1, h2, h3, h4, h5 => by
    have c1 : (nI lv ≤ nI j) = False := eq_false (nI_ge (by omega) (by omega))
    obtain ⟨R1, r1, ⟨cs1, fr1, own1, r2⟩, r3, r4, r5, r6⟩ := R_remove (sc := sc) (d := d) (M := M) (g := g) hS (show B + j < 48 by omega) hs hg hX (fun y hy => h8 j y (by omega) hy) (h240 j (by omega))
    have hup : ∀ v, ¬ v = j → upl qq (B + j) (tlK g (qq (B + j))) (B + v) = qq (B + v) := fun v hv => upl_o (by omega)
    have tl8 : ∀ y, y ∈ tlK g (qq (B + j)) → y ∈ qq (B + j) := by
      intro y hy
      cases hq : qq (B + j) with
      | nil => rw [hq] at hy; exact hy
      | cons z r =>
        rw [hq] at hy
        rcases List.mem_cons.mp hy with q | q
        · rw [q]; exact List.mem_cons_self ..
        · exact List.mem_cons_of_mem _ (List.mem_filter.mp q).1
    have tll : (tlK g (qq (B + j))).length ≤ (qq (B + j)).length := by
      cases hq : qq (B + j) with
      | nil => exact Nat.le_refl _
      | cons z r =>
        show (z :: r.filter _).length ≤ _
        rw [List.length_cons, List.length_cons]
        have := List.length_filter_le (fun x : Sg => decide (¬ x.2.1 = g)) r
        omega
    obtain ⟨R', g1, ⟨cs', fr', own', g2⟩, g3, g4, g5, g6⟩ := R_co_loop (n := n) hS hs hg hlv hB k (j + 1) R1 (upl qq (B + j) (tlK g (qq (B + j)))) cs1 fr1 own1 _ (e_st1 L 5 (.int (nI (j + 1)))) (by omega) (by rw [r5 0 (by decide)]; exact h3') r2 (fun v y hv hy => by
      by_cases e : v = j
      · subst e; rw [upl_s] at hy; exact h8 v y hv (tl8 y hy)
      · rw [hup v e] at hy; exact h8 v y hv hy) (fun v hv => by
      by_cases e : v = j
      · subst e; rw [upl_s]; have := h240 v hv; omega
      · rw [hup v e]; exact h240 v hv) (by simp (maxDischargeDepth := 9) only [nl_sti, nl_str, nl_ci, nl_cr, nl_nil, ld_cons, ld_st, lr_some, li_some, lj_some, n2_nl, n2_ci, n2_cr, n2_nil, n2_sti, n2_str, tl_some, tl_none, cat_le, List.length_cons, List.length_nil, Option.bind_some, Option.bind_none, Option.map_some, cond_true, cond_false, Bool.and_true, Bool.true_and, reduceIte, Nat.reduceEqDiff, Nat.reduceAdd, Nat.reduceLeDiff, Nat.zero_add, Nat.zero_le, Nat.zero_ne_one, Nat.one_ne_zero, Nat.reduceLT, true_or, or_true, false_or, or_false, false_and, true_and, and_false, and_true, not_false_eq_true, not_true_eq_false, eq_self, mA_A, mA_I, mI_A, mI_I, b01, b10, b01n, b10n, i10, i01, im0, ei_max, ei_min, ei_obj, n30, n20, hL]) (by simp only [nl_sti, nl_str, nl_ci, nl_cr, nl_nil, ld_cons, ld_st, lr_some, li_some, lj_some, n2_nl, n2_ci, n2_cr, n2_nil, n2_sti, n2_str, tl_some, tl_none, cat_le, List.length_cons, List.length_nil, Option.bind_some, Option.bind_none, Option.map_some, cond_true, cond_false, Bool.and_true, Bool.true_and, reduceIte, Nat.reduceEqDiff, Nat.reduceAdd, Nat.reduceLeDiff, Nat.zero_add, Nat.zero_le, Nat.zero_ne_one, Nat.one_ne_zero, Nat.reduceLT, true_or, or_true, false_or, or_false, false_and, true_and, and_false, and_true, not_false_eq_true, not_true_eq_false, eq_self, mA_A, mA_I, mI_A, mI_I, b01, b10, b01n, b10n, i10, i01, im0, ei_max, ei_min, ei_obj, n30, n20, h0]) (by simp only [nl_sti, nl_str, nl_ci, nl_cr, nl_nil, ld_cons, ld_st, lr_some, li_some, lj_some, n2_nl, n2_ci, n2_cr, n2_nil, n2_sti, n2_str, tl_some, tl_none, cat_le, List.length_cons, List.length_nil, Option.bind_some, Option.bind_none, Option.map_some, cond_true, cond_false, Bool.and_true, Bool.true_and, reduceIte, Nat.reduceEqDiff, Nat.reduceAdd, Nat.reduceLeDiff, Nat.zero_add, Nat.zero_le, Nat.zero_ne_one, Nat.one_ne_zero, Nat.reduceLT, true_or, or_true, false_or, or_false, false_and, true_and, and_false, and_true, not_false_eq_true, not_true_eq_false, eq_self, mA_A, mA_I, mI_A, mI_I, b01, b10, b01n, b10n, i10, i01, im0, ei_max, ei_min, ei_obj, n30, n20, h1]) (by simp only [nl_sti, nl_str, nl_ci, nl_cr, nl_nil, ld_cons, ld_st, lr_some, li_some, lj_some, n2_nl, n2_ci, n2_cr, n2_nil, n2_sti, n2_str, tl_some, tl_none, cat_le, List.length_cons, List.length_nil, Option.bind_some, Option.bind_none, Option.map_some, cond_true, cond_false, Bool.and_true, Bool.true_and, reduceIte, Nat.reduceEqDiff, Nat.reduceAdd, Nat.reduceLeDiff, Nat.zero_add, Nat.zero_le, Nat.zero_ne_one, Nat.one_ne_zero, Nat.reduceLT, true_or, or_true, false_or, or_false, false_and, true_and, and_false, and_true, not_false_eq_true, not_true_eq_false, eq_self, mA_A, mA_I, mI_A, mI_I, b01, b10, b01n, b10n, i10, i01, im0, ei_max, ei_min, ei_obj, n30, n20, h2]) (by simp only [nl_sti, nl_str, nl_ci, nl_cr, nl_nil, ld_cons, ld_st, lr_some, li_some, lj_some, n2_nl, n2_ci, n2_cr, n2_nil, n2_sti, n2_str, tl_some, tl_none, cat_le, List.length_cons, List.length_nil, Option.bind_some, Option.bind_none, Option.map_some, cond_true, cond_false, Bool.and_true, Bool.true_and, reduceIte, Nat.reduceEqDiff, Nat.reduceAdd, Nat.reduceLeDiff, Nat.zero_add, Nat.zero_le, Nat.zero_ne_one, Nat.one_ne_zero, Nat.reduceLT, true_or, or_true, false_or, or_false, false_and, true_and, and_false, and_true, not_false_eq_true, not_true_eq_false, eq_self, mA_A, mA_I, mI_A, mI_I, b01, b10, b01n, b10n, i10, i01, im0, ei_max, ei_min, ei_obj, n30, n20, h3]) (by simp only [nl_sti, nl_str, nl_ci, nl_cr, nl_nil, ld_cons, ld_st, lr_some, li_some, lj_some, n2_nl, n2_ci, n2_cr, n2_nil, n2_sti, n2_str, tl_some, tl_none, cat_le, List.length_cons, List.length_nil, Option.bind_some, Option.bind_none, Option.map_some, cond_true, cond_false, Bool.and_true, Bool.true_and, reduceIte, Nat.reduceEqDiff, Nat.reduceAdd, Nat.reduceLeDiff, Nat.zero_add, Nat.zero_le, Nat.zero_ne_one, Nat.one_ne_zero, Nat.reduceLT, true_or, or_true, false_or, or_false, false_and, true_and, and_false, and_true, not_false_eq_true, not_true_eq_false, eq_self, mA_A, mA_I, mI_A, mI_I, b01, b10, b01n, b10n, i10, i01, im0, ei_max, ei_min, ei_obj, n30, n20, h4]) (by simp only [nl_sti, nl_str, nl_ci, nl_cr, nl_nil, ld_cons, ld_st, lr_some, li_some, lj_some, n2_nl, n2_ci, n2_cr, n2_nil, n2_sti, n2_str, tl_some, tl_none, cat_le, List.length_cons, List.length_nil, Option.bind_some, Option.bind_none, Option.map_some, cond_true, cond_false, Bool.and_true, Bool.true_and, reduceIte, Nat.reduceEqDiff, Nat.reduceAdd, Nat.reduceLeDiff, Nat.zero_add, Nat.zero_le, Nat.zero_ne_one, Nat.one_ne_zero, Nat.reduceLT, true_or, or_true, false_or, or_false, false_and, true_and, and_false, and_true, not_false_eq_true, not_true_eq_false, eq_self, mA_A, mA_I, mI_A, mI_I, b01, b10, b01n, b10n, i10, i01, im0, ei_max, ei_min, ei_obj, n30, n20])
    have hsum : ∀ (k' j' : Nat), j < j' → sumK (fun v => (upl qq (B + j) (tlK g (qq (B + j))) (B + v)).tail.countP (fun y => decide (y.2.1 = g))) k' j' = sumK (fun v => (qq (B + v)).tail.countP (fun y => decide (y.2.1 = g))) k' j' := by
      intro k'
      induction k' with
      | zero => intro j' _; rfl
      | succ k' ih =>
        intro j' hjj
        simp only [sumK]
        rw [ih (j' + 1) (by omega), hup j' (by omega)]
    rw [hsum k (j + 1) (by omega)] at g2 g3 g4
    have hqk : qqk g B (upl qq (B + j) (tlK g (qq (B + j)))) k (j + 1) = qqk g B qq (k + 1) j := by
      funext l
      unfold qqk
      by_cases e : l = B + j
      · subst e
        rw [if_neg (by omega), if_pos (by omega), upl_s]
      · rw [upl_o e]
        by_cases e2 : B + (j + 1) ≤ l ∧ l < B + (j + 1) + k
        · rw [if_pos e2, if_pos (by omega)]
        · rw [if_neg e2, if_neg (by omega)]
    rw [hqk] at g2
    have sub2 : ∀ (x : Int32) (p q : Nat), x - nI p - nI q = x - nI (p + q) := by
      intro x p q
      rw [← nI_add, Int32.sub_eq_add_neg (x - nI p), Int32.sub_eq_add_neg x (nI p), Int32.sub_eq_add_neg x (nI p + nI q), Int32.neg_add, Int32.add_assoc, Int32.sub_eq_add_neg (-nI p)]
    refine ⟨R', ?_, ⟨cs', fr', own', ?_⟩, ?_, ?_, fun i hi => (g5 i hi).trans (r5 i hi), fun i hi => (g6 i hi).trans (r6 i hi)⟩
    · rw [← g1, s75_22]
      simp only [s75_0, s75_1, s75_2, s75_3, s75_6, s75_7, s75_8, s75_9, s75_10, s75_13, s75_14, s75_17, s75_19, s75_20, s75_24, s75_25, s75_28, s75_31, s75_32, s75_35, s75_37, s75_39, s75_40, s75_41, s75_42, s75_45, s75_48, s75_51, s75_52, nl_sti, nl_str, nl_ci, nl_cr, nl_nil, ld_cons, ld_st, lr_some, li_some, lj_some, n2_nl, n2_ci, n2_cr, n2_nil, n2_sti, n2_str, tl_some, tl_none, cat_le, List.length_cons, List.length_nil, Option.bind_some, Option.bind_none, Option.map_some, cond_true, cond_false, Bool.and_true, Bool.true_and, reduceIte, Nat.reduceEqDiff, Nat.reduceAdd, Nat.reduceLeDiff, Nat.zero_add, Nat.zero_le, Nat.zero_ne_one, Nat.one_ne_zero, Nat.reduceLT, true_or, or_true, false_or, or_false, false_and, true_and, and_false, and_true, not_false_eq_true, not_true_eq_false, eq_self, mA_A, mA_I, mI_A, mI_I, b01, b10, b01n, b10n, i10, i01, im0, ei_max, ei_min, ei_obj, n30, n20, b011, b101, orn, nor, dneg, dnle, dne, dcl, cat0, cat1, cat2, cat3, cat4, gR0_0, pR0_0, gR0_1, pR0_1, gR0_2, pR0_2, gR0_3, pR0_3, gR0_4, pR0_4, gR0_5, pR0_5, gR0_6, pR0_6, gR0_7, gR0_8, gR0_9, gR0_10, gR0_11, gR0_12, gR0_13, gR0_14, gR0_15, gR0_16, cR0, cR5, cR17, cR19, cR26, cR28, cR30, hS, hL, h0, h1, h2, h3, h4, h5, h3', c1, nI_add, r1, nI_1]
    · simp only [sumK]
      rw [← Nat.add_assoc]
      exact g2
    · rw [g3, r3, up_s, up_up, sub2]
      rfl
    · rw [g4, r4, sub2]
      rfl
end
