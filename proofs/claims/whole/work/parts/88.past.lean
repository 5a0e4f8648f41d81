/-! WHAT WAS IS KEPT, in the class -/
def PastSh (sh : List sE) (p : Nat) (F : Nat → Option Nat) : Prop := shp sh p = some (.inl (4, [(p + 1) + 3, 0, 0])) ∧ shp sh (p + 1) = some (.inr (.inr (.inl (3, 40, .inr (.inr F)))))
theorem PastSh.app {sh t : List sE} {p : Nat} {F : Nat → Option Nat} (h : PastSh sh p F) : PastSh (sh ++ t) p F := ⟨shp_app h.1, shp_app h.2⟩
theorem shp_ge {sh : List sE} {x : Nat} {s : sE} (h : shp sh x = some s) : 32 ≤ x ∧ x - 32 < sh.length := by
  unfold shp at h
  cases hb : Nat.blt x 32 with
  | true => rw [hb] at h; cases h
  | false =>
    rw [hb] at h
    simp only [cond_false] at h
    have h1 : ¬ x < 32 := fun q => by rw [Nat.blt_eq.mpr q] at hb; cases hb
    exact ⟨by omega, (List.getElem?_eq_some_iff.mp h).1⟩
theorem shp_set_s {sh : List sE} {x : Nat} {s t : sE} (h : shp sh x = some s) : shp (sh.set (x - 32) t) x = some t := by
  obtain ⟨h1, h2⟩ := shp_ge h
  unfold shp
  rw [show Nat.blt x 32 = false from Bool.eq_false_iff.mpr (fun q => by have := Nat.blt_eq.mp q; omega)]
  simp only [cond_false]
  rw [List.getElem?_set_self h2]
theorem shp_set_o {sh : List sE} {x y : Nat} {s t : sE} (hx : 32 ≤ x) (hy : shp sh y = some s) (h : ¬ y = x) : shp (sh.set (x - 32) t) y = some s := by
  obtain ⟨h1, h2⟩ := shp_ge hy
  unfold shp at hy ⊢
  rw [show Nat.blt y 32 = false from Bool.eq_false_iff.mpr (fun q => by have := Nat.blt_eq.mp q; omega)] at hy ⊢
  simp only [cond_false] at hy ⊢
  rw [List.getElem?_set_ne (by omega)]
  exact hy
theorem rowE_ne (a k : Nat) (e : aE) : ¬ rowE a k = .inr (.inr e) := by
  unfold rowE
  split <;> exact fun q => (by cases q)
theorem modE_ne (a k : Nat) (e : aE) : ¬ modE a k = .inr (.inr e) := by
  unfold modE
  split <;> exact fun q => (by cases q)
theorem RowSh.set {sh : List sE} {a x : Nat} {e : aE} {t : sE} (h : RowSh sh a) (hx : shp sh x = some (.inr (.inr e))) : RowSh (sh.set (x - 32) t) a := fun k hk => shp_set_o (shp_ge hx).1 (h k hk) (fun q => by
  have h1 := h k hk
  rw [q, hx] at h1
  exact rowE_ne a k e (Option.some.inj h1).symm)
theorem ModSh.set {sh : List sE} {a x : Nat} {e : aE} {t : sE} (h : ModSh sh a) (hx : shp sh x = some (.inr (.inr e))) : ModSh (sh.set (x - 32) t) a := fun k hk => shp_set_o (shp_ge hx).1 (h k hk) (fun q => by
  have h1 := h k hk
  rw [q, hx] at h1
  exact modE_ne a k e (Option.some.inj h1).symm)
section
variable {sc : aS} {d : Nat} {sh : List sE} {M : aM} {a p : Nat} {F : Nat → Option Nat}
theorem P_g0 (hp : PastSh sh p F) : e_gf (mk sh M) p 4 0 = some (.ref (p + 1)) := by rw [gf_mk hp.1]; rfl
theorem P_g1 (hp : PastSh sh p F) : e_gf (mk sh M) p 4 1 = some (.int (M.1 p 1)) := by rw [gf_mk hp.1]; rfl
theorem P_g2 (hp : PastSh sh p F) : e_gf (mk sh M) p 4 2 = some (.int (M.1 p 2)) := by rw [gf_mk hp.1]; rfl
theorem P_p1 (hp : PastSh sh p F) {v : Int32} : e_pf (mk sh M) p 4 1 (.int v) = some (mk sh (mI M p 1 v)) := pfI_mk hp.1 rfl rfl
theorem P_p2 (hp : PastSh sh p F) {v : Int32} : e_pf (mk sh M) p 4 2 (.int v) = some (mk sh (mI M p 2 v)) := pfI_mk hp.1 rfl rfl
theorem P_qa (hp : PastSh sh p F) {j : Nat} (hj : j < 40) : e_qa (mk sh M) (p + 1) (nI j) = some (va_rf (F j)) := by
  unfold e_qa
  rw [e_c_mk, hp.2]
  simp only [Option.map_some, mkc]
  rw [if_pos (by rw [nI_clamp (by omega)]; exact (not_congr (in_nI hj (by decide))).mpr not_false), nI_clamp (by omega)]
theorem P_qs (hp : PastSh sh p F) {j b : Nat} (hj : j < 40) (hb : RowSh sh b) : e_qs (mk sh M) (p + 1) (nI j) b = some (mk (sh.set (p + 1 - 32) (.inr (.inr (.inl (3, 40, .inr (.inr (va_up F j (some b)))))))) M) := by
  unfold e_qs
  have h0 : shp sh b = some (rowE b 0) := hb 0 (by decide)
  rw [e_c_mk, e_c_mk, hp.2, h0]
  simp only [Option.map_some, mkc, rowE]
  rw [if_pos ⟨by rw [nI_clamp (by omega)]; exact (not_congr (in_nI hj (by decide))).mpr not_false, by decide +kernel⟩, nI_clamp (by omega)]
  congr 1
  exact mk_set hp.2 rfl (fun _ _ _ => rfl)
theorem PastSh.set (hp : PastSh sh p F) (G : Nat → Option Nat) : PastSh (sh.set (p + 1 - 32) (.inr (.inr (.inl (3, 40, .inr (.inr G)))))) p G := ⟨shp_set_o (shp_ge hp.2).1 hp.1 (by omega), shp_set_s hp.2⟩
/-- the counts of the past, one kept -/
def pKeep (M : aM) (p c st : Nat) : aM := if c = 40 then mI M p 2 (nI ((st + 1) % 40)) else mI M p 1 (nI (c + 1))
theorem K_pre (hp : PastSh sh p F) {c st : Nat} (hc : c ≤ 40) (hst : st < 40) (h1 : M.1 p 1 = nI c) (h2 : M.1 p 2 = nI st) : ∃ L, e_n2 L ∧ e_ld L 0 = some (.ref p) ∧ e_ld L 1 = some (.ref a) ∧ e_ld L 2 = some (.int (nI ((st + c) % 40))) ∧ evp sc d 53 0 [(0, .ref p), (1, .ref a)] [] (mk sh M) = evp sc d 53 48 L [] (mk sh (pKeep M p c st)) := by
  have n40 : ((40 : Int32) = 0) = False := by decide
  have e0 : (nI st + nI c) - (nI st + nI c) / 40 * 40 = nI ((st + c) % 40) := by rw [nI_add]; exact rem40 (by omega)
  refine ⟨e_st1 [(0, .ref p), (1, .ref a)] 2 (.int (nI ((st + c) % 40))), by simp (maxDischargeDepth := 9) only [nl_sti, nl_str, nl_ci, nl_cr, nl_nil, ld_cons, ld_st, lr_some, li_some, lj_some, n2_nl, n2_ci, n2_cr, n2_nil, n2_sti, n2_str, tl_some, tl_none, cat_le, List.length_cons, List.length_nil, Option.bind_some, Option.bind_none, Option.map_some, cond_true, cond_false, Bool.and_true, Bool.true_and, reduceIte, Nat.reduceEqDiff, Nat.reduceAdd, Nat.reduceLeDiff, Nat.zero_add, Nat.zero_le, Nat.zero_ne_one, Nat.one_ne_zero, Nat.reduceLT, true_or, or_true, false_or, or_false, false_and, true_and, and_false, and_true, not_false_eq_true, not_true_eq_false, eq_self, mA_A, mA_I, mI_A, mI_I, b01, b10, b01n, b10n, i10, i01, im0, ei_max, ei_min, ei_obj, n30, n20], by simp only [nl_sti, nl_str, nl_ci, nl_cr, nl_nil, ld_cons, ld_st, lr_some, li_some, lj_some, n2_nl, n2_ci, n2_cr, n2_nil, n2_sti, n2_str, tl_some, tl_none, cat_le, List.length_cons, List.length_nil, Option.bind_some, Option.bind_none, Option.map_some, cond_true, cond_false, Bool.and_true, Bool.true_and, reduceIte, Nat.reduceEqDiff, Nat.reduceAdd, Nat.reduceLeDiff, Nat.zero_add, Nat.zero_le, Nat.zero_ne_one, Nat.one_ne_zero, Nat.reduceLT, true_or, or_true, false_or, or_false, false_and, true_and, and_false, and_true, not_false_eq_true, not_true_eq_false, eq_self, mA_A, mA_I, mI_A, mI_I, b01, b10, b01n, b10n, i10, i01, im0, ei_max, ei_min, ei_obj, n30, n20], by simp only [nl_sti, nl_str, nl_ci, nl_cr, nl_nil, ld_cons, ld_st, lr_some, li_some, lj_some, n2_nl, n2_ci, n2_cr, n2_nil, n2_sti, n2_str, tl_some, tl_none, cat_le, List.length_cons, List.length_nil, Option.bind_some, Option.bind_none, Option.map_some, cond_true, cond_false, Bool.and_true, Bool.true_and, reduceIte, Nat.reduceEqDiff, Nat.reduceAdd, Nat.reduceLeDiff, Nat.zero_add, Nat.zero_le, Nat.zero_ne_one, Nat.one_ne_zero, Nat.reduceLT, true_or, or_true, false_or, or_false, false_and, true_and, and_false, and_true, not_false_eq_true, not_true_eq_false, eq_self, mA_A, mA_I, mI_A, mI_I, b01, b10, b01n, b10n, i10, i01, im0, ei_max, ei_min, ei_obj, n30, n20], by simp only [nl_sti, nl_str, nl_ci, nl_cr, nl_nil, ld_cons, ld_st, lr_some, li_some, lj_some, n2_nl, n2_ci, n2_cr, n2_nil, n2_sti, n2_str, tl_some, tl_none, cat_le, List.length_cons, List.length_nil, Option.bind_some, Option.bind_none, Option.map_some, cond_true, cond_false, Bool.and_true, Bool.true_and, reduceIte, Nat.reduceEqDiff, Nat.reduceAdd, Nat.reduceLeDiff, Nat.zero_add, Nat.zero_le, Nat.zero_ne_one, Nat.one_ne_zero, Nat.reduceLT, true_or, or_true, false_or, or_false, false_and, true_and, and_false, and_true, not_false_eq_true, not_true_eq_false, eq_self, mA_A, mA_I, mI_A, mI_I, b01, b10, b01n, b10n, i10, i01, im0, ei_max, ei_min, ei_obj, n30, n20], ?_⟩
  by_cases q : c = 40
  · have c1 : ((40 : Int32) ≤ nI c) = True := eq_true (by rw [q]; decide)
    have e1 : (nI st + 1) - (nI st + 1) / 40 * 40 = nI ((st + 1) % 40) := by rw [nI_1]; exact rem40 (by omega)
    have ek : pKeep M p c st = mI M p 2 (nI ((st + 1) % 40)) := if_pos q
    rw [ek]
    simp only [s53_0, s53_1, s53_4, s53_5, s53_8, s53_9, s53_11, s53_12, s53_13, s53_14, s53_17, s53_19, s53_22, s53_23, s53_23r, s53_24, s53_27, s53_28, s53_29, s53_32, s53_35, s53_36, s53_37, s53_40, s53_41, s53_42, s53_44, s53_45, s53_49, s53_52, s53_53, s53_54n, s53_54r, s53_57, s53_58, s53_61, s53_62, s53_65, s53_65r, s53_66, s53_69, s53_70, s53_71, s53_74, s53_75, s53_76, s53_77, s53_80, nl_sti, nl_str, nl_ci, nl_cr, nl_nil, ld_cons, ld_st, lr_some, li_some, lj_some, n2_nl, n2_ci, n2_cr, n2_nil, n2_sti, n2_str, tl_some, tl_none, cat_le, List.length_cons, List.length_nil, Option.bind_some, Option.bind_none, Option.map_some, cond_true, cond_false, Bool.and_true, Bool.true_and, reduceIte, Nat.reduceEqDiff, Nat.reduceAdd, Nat.reduceLeDiff, Nat.zero_add, Nat.zero_le, Nat.zero_ne_one, Nat.one_ne_zero, Nat.reduceLT, true_or, or_true, false_or, or_false, false_and, true_and, and_false, and_true, not_false_eq_true, not_true_eq_false, eq_self, mA_A, mA_I, mI_A, mI_I, b01, b10, b01n, b10n, i10, i01, im0, ei_max, ei_min, ei_obj, n30, n20, b011, b101, orn, nor, dneg, dnle, dne, dcl, cat0, cat1, cat2, cat3, cat4, P_g1 hp, P_g2 hp, P_p2 hp, h1, h2, e0, n40, c1, e1]
  · have c1 : ((40 : Int32) ≤ nI c) = False := eq_false (nI_ge (b := 40) (by omega) (by omega))
    have ek : pKeep M p c st = mI M p 1 (nI (c + 1)) := if_neg q
    rw [ek]
    simp only [s53_0, s53_1, s53_4, s53_5, s53_8, s53_9, s53_11, s53_12, s53_13, s53_14, s53_17, s53_19, s53_22, s53_23, s53_23r, s53_24, s53_27, s53_28, s53_29, s53_32, s53_35, s53_36, s53_37, s53_40, s53_41, s53_42, s53_44, s53_45, s53_49, s53_52, s53_53, s53_54n, s53_54r, s53_57, s53_58, s53_61, s53_62, s53_65, s53_65r, s53_66, s53_69, s53_70, s53_71, s53_74, s53_75, s53_76, s53_77, s53_80, nl_sti, nl_str, nl_ci, nl_cr, nl_nil, ld_cons, ld_st, lr_some, li_some, lj_some, n2_nl, n2_ci, n2_cr, n2_nil, n2_sti, n2_str, tl_some, tl_none, cat_le, List.length_cons, List.length_nil, Option.bind_some, Option.bind_none, Option.map_some, cond_true, cond_false, Bool.and_true, Bool.true_and, reduceIte, Nat.reduceEqDiff, Nat.reduceAdd, Nat.reduceLeDiff, Nat.zero_add, Nat.zero_le, Nat.zero_ne_one, Nat.one_ne_zero, Nat.reduceLT, true_or, or_true, false_or, or_false, false_and, true_and, and_false, and_true, not_false_eq_true, not_true_eq_false, eq_self, mA_A, mA_I, mI_A, mI_I, b01, b10, b01n, b10n, i10, i01, im0, ei_max, ei_min, ei_obj, n30, n20, b011, b101, orn, nor, dneg, dnle, dne, dcl, cat0, cat1, cat2, cat3, cat4, P_g1 hp, P_g2 hp, P_p1 hp, h1, h2, e0, n40, c1, nI_1]
theorem K_old (hp : PastSh sh p F) {c st b : Nat} (hc : c ≤ 40) (hst : st < 40) (h1 : M.1 p 1 = nI c) (h2 : M.1 p 2 = nI st) (hF : F ((st + c) % 40) = some b) (hA : RowSh sh a) (hB : RowSh sh b) (hD : a + 31 ≤ b ∨ b + 31 ≤ a) : evp sc (d + 3) 53 0 [(0, .ref p), (1, .ref a)] [] (mk sh M) = some (none, mk sh (gl (pKeep M p c st) b 31 (rCopy (lc (pKeep M p c st) b) (lc (pKeep M p c st) a)))) := by
  obtain ⟨L, hL, l0, l1, l2, e⟩ := K_pre (sc := sc) (d := d + 3) (a := a) hp hc hst h1 h2
  have hq : (st + c) % 40 < 40 := Nat.mod_lt _ (by decide)
  have t1 := R_copy (sc := sc) (d := d) (M := pKeep M p c st) (R := lc (pKeep M p c st) b) hB hA hD
  rw [gl_lc] at t1
  have ib := isC_mk (M := pKeep M p c st) (ci := 5) (show shp sh b = some (rowE b 0) from hB 0 (by decide))
  rw [e]
  simp only [s53_0, s53_1, s53_4, s53_5, s53_8, s53_9, s53_11, s53_12, s53_13, s53_14, s53_17, s53_19, s53_22, s53_23, s53_23r, s53_24, s53_27, s53_28, s53_29, s53_32, s53_35, s53_36, s53_37, s53_40, s53_41, s53_42, s53_44, s53_45, s53_48, s53_49, s53_52, s53_53, s53_54n, s53_54r, s53_57, s53_58, s53_61, s53_62, s53_65, s53_65r, s53_66, s53_69, s53_70, s53_71, s53_74, s53_75, s53_76, s53_77, s53_80, nl_sti, nl_str, nl_ci, nl_cr, nl_nil, ld_cons, ld_st, lr_some, li_some, lj_some, n2_nl, n2_ci, n2_cr, n2_nil, n2_sti, n2_str, tl_some, tl_none, cat_le, List.length_cons, List.length_nil, Option.bind_some, Option.bind_none, Option.map_some, cond_true, cond_false, Bool.and_true, Bool.true_and, reduceIte, Nat.reduceEqDiff, Nat.reduceAdd, Nat.reduceLeDiff, Nat.zero_add, Nat.zero_le, Nat.zero_ne_one, Nat.one_ne_zero, Nat.reduceLT, true_or, or_true, false_or, or_false, false_and, true_and, and_false, and_true, not_false_eq_true, not_true_eq_false, eq_self, mA_A, mA_I, mI_A, mI_I, b01, b10, b01n, b10n, i10, i01, im0, ei_max, ei_min, ei_obj, n30, n20, b011, b101, orn, nor, dneg, dnle, dne, dcl, cat0, cat1, cat2, cat3, cat4, hL, l0, l1, l2, P_g0 hp, P_qa hp hq, hF, va_rf, ib, t1]
theorem K_new (hp : PastSh sh p F) {c st : Nat} (hc : c ≤ 40) (hst : st < 40) (h1 : M.1 p 1 = nI c) (h2 : M.1 p 2 = nI st) (hF : F ((st + c) % 40) = none) (hA : RowSh sh a) : evp sc (d + 3) 53 0 [(0, .ref p), (1, .ref a)] [] (mk sh M) = some (none, mk ((sh ++ rowS (32 + sh.length)).set (p + 1 - 32) (.inr (.inr (.inl (3, 40, .inr (.inr (va_up F ((st + c) % 40) (some (32 + sh.length))))))))) (gl (pKeep M p c st) (32 + sh.length) 31 (rCopy R00 (lc (pKeep M p c st) a)))) := by
  obtain ⟨L, hL, l0, l1, l2, e⟩ := K_pre (sc := sc) (d := d + 3) (a := a) hp hc hst h1 h2
  have hq : (st + c) % 40 < 40 := Nat.mod_lt _ (by decide)
  generalize (st + c) % 40 = i at hq hF l2 ⊢
  have hA31 := shp_ge (hA 30 (by decide))
  have hN := RowSh_new sh
  have tn := N_row (sc := sc) (d := d) (h := mk sh (pKeep M p c st))
  rw [mk_len, mk_newrow] at tn
  have hp' : PastSh (sh ++ rowS (32 + sh.length)) p F := hp.app
  have hs := P_qs (M := gl (pKeep M p c st) (32 + sh.length) 31 R00) hp' hq hN
  have hx : shp (sh ++ rowS (32 + sh.length)) (p + 1) = some (.inr (.inr (.inl (3, 40, .inr (.inr F))))) := hp'.2
  have hp2 := hp'.set (va_up F i (some (32 + sh.length)))
  have hN2 := hN.set (t := .inr (.inr (.inl (3, 40, .inr (.inr (va_up F i (some (32 + sh.length)))))))) hx
  have hA2 := (hA.app (t := rowS (32 + sh.length))).set (t := .inr (.inr (.inl (3, 40, .inr (.inr (va_up F i (some (32 + sh.length)))))))) hx
  have t1 := R_copy (sc := sc) (d := d) (M := pKeep M p c st) (R := R00) hN2 hA2 (Or.inl (by omega))
  have e2 : va_up F i (some (32 + sh.length)) i = some (32 + sh.length) := by simp [va_up]
  have ib := isC_mk (M := gl (pKeep M p c st) (32 + sh.length) 31 R00) (ci := 5) (show shp _ (32 + sh.length) = some (rowE (32 + sh.length) 0) from hN2 0 (by decide))
  rw [e]
  have hlen : (mk sh (pKeep M p c st)).length = sh.length := mk_len _ _
  simp only [s53_0, s53_1, s53_4, s53_5, s53_8, s53_9, s53_11, s53_12, s53_13, s53_14, s53_17, s53_19, s53_22, s53_23, s53_23r, s53_24, s53_27, s53_28, s53_29, s53_32, s53_35, s53_36, s53_37, s53_40, s53_41, s53_42, s53_44, s53_45, s53_48, s53_49, s53_52, s53_53, s53_54n, s53_54r, s53_57, s53_58, s53_61, s53_62, s53_65, s53_65r, s53_66, s53_69, s53_70, s53_71, s53_74, s53_75, s53_76, s53_77, s53_80, nl_sti, nl_str, nl_ci, nl_cr, nl_nil, ld_cons, ld_st, lr_some, li_some, lj_some, n2_nl, n2_ci, n2_cr, n2_nil, n2_sti, n2_str, tl_some, tl_none, cat_le, List.length_cons, List.length_nil, Option.bind_some, Option.bind_none, Option.map_some, cond_true, cond_false, Bool.and_true, Bool.true_and, reduceIte, Nat.reduceEqDiff, Nat.reduceAdd, Nat.reduceLeDiff, Nat.zero_add, Nat.zero_le, Nat.zero_ne_one, Nat.one_ne_zero, Nat.reduceLT, true_or, or_true, false_or, or_false, false_and, true_and, and_false, and_true, not_false_eq_true, not_true_eq_false, eq_self, mA_A, mA_I, mI_A, mI_I, b01, b10, b01n, b10n, i10, i01, im0, ei_max, ei_min, ei_obj, n30, n20, b011, b101, orn, nor, dneg, dnle, dne, dcl, cat0, cat1, cat2, cat3, cat4, hL, l0, l1, l2, P_g0 hp, P_g0 hp', P_g0 hp2, P_qa hp hq, P_qa hp2 hq, hF, e2, va_rf, hlen, tn, hs, ib, t1]
end
section
variable {sc : aS} {d : Nat} {sh : List sE} {M : aM} {a p : Nat} {F : Nat → Option Nat}
theorem B_none (hp : PastSh sh p F) (h1 : M.1 p 1 = nI 0) : evp sc d 54 0 [(0, .ref p), (1, .ref a)] [] (mk sh M) = some (some (.int (-1)), mk sh M) := by
  simp only [s54_0, s54_1, s54_4, s54_7, s54_8, s54_9, s54_10, s54_10r, s54_11, s54_14, s54_15, s54_16, s54_19, s54_20, s54_23, s54_24, s54_27, s54_28, s54_31, s54_32, s54_34, s54_35, s54_36, s54_37, s54_38n, s54_38r, s54_41, s54_42, s54_43, s54_46, s54_47, s54_50, nl_sti, nl_str, nl_ci, nl_cr, nl_nil, ld_cons, ld_st, lr_some, li_some, lj_some, n2_nl, n2_ci, n2_cr, n2_nil, n2_sti, n2_str, tl_some, tl_none, cat_le, List.length_cons, List.length_nil, Option.bind_some, Option.bind_none, Option.map_some, cond_true, cond_false, Bool.and_true, Bool.true_and, reduceIte, Nat.reduceEqDiff, Nat.reduceAdd, Nat.reduceLeDiff, Nat.zero_add, Nat.zero_le, Nat.zero_ne_one, Nat.one_ne_zero, Nat.reduceLT, true_or, or_true, false_or, or_false, false_and, true_and, and_false, and_true, not_false_eq_true, not_true_eq_false, eq_self, mA_A, mA_I, mI_A, mI_I, b01, b10, b01n, b10n, i10, i01, im0, ei_max, ei_min, ei_obj, n30, n20, b011, b101, orn, nor, dneg, dnle, dne, dcl, cat0, cat1, cat2, cat3, cat4, P_g1 hp, h1, nz0]
theorem B_some (hp : PastSh sh p F) {c st b : Nat} (hc : c < 40) (hst : st < 40) (h1 : M.1 p 1 = nI (c + 1)) (h2 : M.1 p 2 = nI st) (hF : F ((st + c) % 40) = some b) (hA : RowSh sh a) (hB : RowSh sh b) (hD : a + 31 ≤ b ∨ b + 31 ≤ a) (hpa : p < a ∨ a + 31 ≤ p) : evp sc (d + 3) 54 0 [(0, .ref p), (1, .ref a)] [] (mk sh M) = some (some (.int (nI c)), mk sh (gl (mI M p 1 (nI c)) a 31 (rCopy (lc (mI M p 1 (nI c)) a) (lc (mI M p 1 (nI c)) b)))) := by
  have hq : (st + c) % 40 < 40 := Nat.mod_lt _ (by decide)
  have n40 : ((40 : Int32) = 0) = False := by decide
  have n0 : (nI (c + 1) = 0) = False := eq_false (nI_ne0 (by omega) (by omega))
  have e0 : (nI st + nI c) - (nI st + nI c) / 40 * 40 = nI ((st + c) % 40) := by rw [nI_add]; exact rem40 (by omega)
  have e1 : (mI M p 1 (nI c)).1 p 1 = nI c := by rw [mI_At, if_pos rfl]
  have t1 := R_copy (sc := sc) (d := d) (M := mI M p 1 (nI c)) (R := lc (mI M p 1 (nI c)) a) hA hB (by omega)
  have e3 : (gl (mI M p 1 (nI c)) a 31 (rCopy (lc (mI M p 1 (nI c)) a) (lc (mI M p 1 (nI c)) b))).1 p 1 = nI c := by rw [gl_Io hpa, e1]
  have ia := isC_mk (M := mI M p 1 (nI c)) (ci := 5) (show shp sh a = some (rowE a 0) from hA 0 (by decide))
  rw [gl_lc] at t1
  simp only [s54_0, s54_1, s54_4, s54_7, s54_8, s54_9, s54_10, s54_10r, s54_11, s54_14, s54_15, s54_16, s54_19, s54_20, s54_23, s54_24, s54_27, s54_28, s54_31, s54_32, s54_34, s54_35, s54_36, s54_37, s54_38n, s54_38r, s54_41, s54_42, s54_43, s54_46, s54_47, s54_50, nl_sti, nl_str, nl_ci, nl_cr, nl_nil, ld_cons, ld_st, lr_some, li_some, lj_some, n2_nl, n2_ci, n2_cr, n2_nil, n2_sti, n2_str, tl_some, tl_none, cat_le, List.length_cons, List.length_nil, Option.bind_some, Option.bind_none, Option.map_some, cond_true, cond_false, Bool.and_true, Bool.true_and, reduceIte, Nat.reduceEqDiff, Nat.reduceAdd, Nat.reduceLeDiff, Nat.zero_add, Nat.zero_le, Nat.zero_ne_one, Nat.one_ne_zero, Nat.reduceLT, true_or, or_true, false_or, or_false, false_and, true_and, and_false, and_true, not_false_eq_true, not_true_eq_false, eq_self, mA_A, mA_I, mI_A, mI_I, b01, b10, b01n, b10n, i10, i01, im0, ei_max, ei_min, ei_obj, n30, n20, b011, b101, orn, nor, dneg, dnle, dne, dcl, cat0, cat1, cat2, cat3, cat4, P_g0 hp, P_g1 hp, P_g2 hp, P_p1 hp, h1, h2, nI_pred, e1, e0, n0, n40, P_qa hp hq, hF, va_rf, ia, t1, e3]
theorem F_forget (hp : PastSh sh p F) : evp sc d 52 0 [(0, .ref p)] [] (mk sh M) = some (none, mk sh (mI (mI M p 1 0) p 2 0)) := by
  simp only [s52_0, s52_1, s52_2, s52_5, s52_6, s52_7, s52_10, nl_sti, nl_str, nl_ci, nl_cr, nl_nil, ld_cons, ld_st, lr_some, li_some, lj_some, n2_nl, n2_ci, n2_cr, n2_nil, n2_sti, n2_str, tl_some, tl_none, cat_le, List.length_cons, List.length_nil, Option.bind_some, Option.bind_none, Option.map_some, cond_true, cond_false, Bool.and_true, Bool.true_and, reduceIte, Nat.reduceEqDiff, Nat.reduceAdd, Nat.reduceLeDiff, Nat.zero_add, Nat.zero_le, Nat.zero_ne_one, Nat.one_ne_zero, Nat.reduceLT, true_or, or_true, false_or, or_false, false_and, true_and, and_false, and_true, not_false_eq_true, not_true_eq_false, eq_self, mA_A, mA_I, mI_A, mI_I, b01, b10, b01n, b10n, i10, i01, im0, ei_max, ei_min, ei_obj, n30, n20, b011, b101, orn, nor, dneg, dnle, dne, dcl, cat0, cat1, cat2, cat3, cat4, P_p1 hp, P_p2 hp]
end
