/-! YEARS: the draws -/
def nx (x : Int64) : Int64 := x * 6364136223846793005 + 1442695040888963407
def dw (x : Int64) (m : Int32) : Int32 := (((nx x).toUInt64 >>> ((33 : Int32).toInt64.toUInt64 &&& Int64.toUInt64 63)).toInt64 - ((nx x).toUInt64 >>> ((33 : Int32).toInt64.toUInt64 &&& Int64.toUInt64 63)).toInt64 / m.toInt64 * m.toInt64).toInt32
theorem mJ_J (M : aM) (a : Nat) (v : Int64) : (mJ M a v).2.2 a = v := by simp [mJ, upJ]
theorem mJ_I (M : aM) (a : Nat) (v : Int64) : (mJ M a v).1 = M.1 := rfl
theorem mJ_A (M : aM) (a : Nat) (v : Int64) : (mJ M a v).2.1 = M.2.1 := rfl
theorem mI_J (M : aM) (a k : Nat) (v : Int32) : (mI M a k v).2.2 = M.2.2 := rfl
theorem gl_mJ (M R : aM) (a n b : Nat) (v : Int64) : mJ (gl M a n R) b v = gl (mJ M b v) a n R := rfl
theorem pfJ_mk {sh : List sE} {M : aM} {a ci k : Nat} {fl : List Nat} {v : Int64} (hs : shp sh a = some (.inl (ci, fl))) (hk : fl[k]? = some 1) (hu : ∀ j, fl[j]? = some 1 → j = k) (hf : e_fit (pTy ci k) (.long v) = true) : e_pf (mk sh M) a ci k (.long v) = some (mk sh (mJ M a v)) := by
  unfold e_pf
  rw [e_c_mk, hs]
  have hl := (List.getElem?_eq_some_iff.mp hk).1
  simp only [Option.map_some, mkc, Nat.beq_refl, mkfs_len, Nat.blt_eq.mpr hl, hf, Bool.and_self, cond_true]
  congr 1
  refine mk_set0 hs ?_ (fun b t hb => mkc_offJ t hb)
  simp only [mkc]
  congr 2
  apply List.ext_getElem?
  intro j
  rw [List.getElem?_set, mkfs_len, mkfs_get, mkfs_get]
  by_cases hj : k = j
  · subst hj
    rw [if_pos rfl, if_pos hl, hk]
    simp [mkf, mJ, upJ]
  · rw [if_neg hj]
    cases hfj : fl[j]? with
    | none => rfl
    | some t =>
      have ht : ¬ t = 1 := fun e => hj (hu j (by rw [hfj, e])).symm
      simp only [Option.map_some, Nat.zero_add]
      congr 1
      match t, ht with
      | 0, _ => rfl
      | 1, h => exact absurd rfl h
      | 2, _ => rfl
      | r + 3, _ => rfl
theorem one64 {m : Int32} (h : 1 ≤ m) : (m.toInt64 = 0) = False := eq_false (fun e => by
  have e2 : m.toInt64.toInt = (0 : Int64).toInt := by rw [e]
  rw [Int32.toInt_toInt64] at e2
  rw [Int32.le_iff_toInt_le] at h
  have h1 : (1 : Int) ≤ m.toInt := h
  have h2 : m.toInt = 0 := e2
  omega)
section
variable {sc sc2 : aS} {d d2 : Nat} {sh sh2 : List sE} {M M2 W R : aM} {a a2 s tp sr p o dr rf kk : Nat} {n dl bal lv t B : Nat} {wl : Nat → List Sg} {al l : List (Nat → Int32)} {lg : LgT} {Ln : Nat → List (Option Se)} {x y v m w : Int32}
theorem dr_only : ∀ j, ([1, 0, 0, 0, 0, 0] : List Nat)[j]? = some 1 → j = 0 := fun j hj => by
  match j, hj with
  | 0, _ => rfl
  | 1, h => cases h
  | 2, h => cases h
  | 3, h => cases h
  | 4, h => cases h
  | 5, h => cases h
  | j + 6, h => cases h
theorem Dr_gx (hd : shp sh dr = some (.inl (0, [1, 0, 0, 0, 0, 0]))) : e_gf (mk sh M) dr 0 0 = some (.long (M.2.2 dr)) := by rw [gf_mk hd]; rfl
theorem Dr_px (hd : shp sh dr = some (.inl (0, [1, 0, 0, 0, 0, 0]))) {v : Int64} : e_pf (mk sh M) dr 0 0 (.long v) = some (mk sh (mJ M dr v)) := pfJ_mk hd rfl dr_only rfl
theorem Dr_g1 (hd : shp sh dr = some (.inl (0, [1, 0, 0, 0, 0, 0]))) : e_gf (mk sh M) dr 0 1 = some (.int (M.1 dr 1)) := by rw [gf_mk hd]; rfl
theorem Dr_g2 (hd : shp sh dr = some (.inl (0, [1, 0, 0, 0, 0, 0]))) : e_gf (mk sh M) dr 0 2 = some (.int (M.1 dr 2)) := by rw [gf_mk hd]; rfl
theorem Dr_g3 (hd : shp sh dr = some (.inl (0, [1, 0, 0, 0, 0, 0]))) : e_gf (mk sh M) dr 0 3 = some (.int (M.1 dr 3)) := by rw [gf_mk hd]; rfl
theorem Dr_g4 (hd : shp sh dr = some (.inl (0, [1, 0, 0, 0, 0, 0]))) : e_gf (mk sh M) dr 0 4 = some (.int (M.1 dr 4)) := by rw [gf_mk hd]; rfl
theorem Dr_g5 (hd : shp sh dr = some (.inl (0, [1, 0, 0, 0, 0, 0]))) : e_gf (mk sh M) dr 0 5 = some (.int (M.1 dr 5)) := by rw [gf_mk hd]; rfl
theorem Dr_p1 (hd : shp sh dr = some (.inl (0, [1, 0, 0, 0, 0, 0]))) {v : Int32} : e_pf (mk sh M) dr 0 1 (.int v) = some (mk sh (mI M dr 1 v)) := pfI_mk hd rfl rfl
theorem Dr_p2 (hd : shp sh dr = some (.inl (0, [1, 0, 0, 0, 0, 0]))) {v : Int32} : e_pf (mk sh M) dr 0 2 (.int v) = some (mk sh (mI M dr 2 v)) := pfI_mk hd rfl rfl
theorem Dr_p3 (hd : shp sh dr = some (.inl (0, [1, 0, 0, 0, 0, 0]))) {v : Int32} : e_pf (mk sh M) dr 0 3 (.int v) = some (mk sh (mI M dr 3 v)) := pfI_mk hd rfl rfl
theorem Dr_p4 (hd : shp sh dr = some (.inl (0, [1, 0, 0, 0, 0, 0]))) {v : Int32} : e_pf (mk sh M) dr 0 4 (.int v) = some (mk sh (mI M dr 4 v)) := pfI_mk hd rfl rfl
theorem Dr_p5 (hd : shp sh dr = some (.inl (0, [1, 0, 0, 0, 0, 0]))) {v : Int32} : e_pf (mk sh M) dr 0 5 (.int v) = some (mk sh (mI M dr 5 v)) := pfI_mk hd rfl rfl
theorem Dr_c (hd : shp sh dr = some (.inl (0, [1, 0, 0, 0, 0, 0]))) : e_isC (mk sh M) dr 0 = true := isC_mk hd
theorem D_draw (hd : shp sh dr = some (.inl (0, [1, 0, 0, 0, 0, 0]))) : evp sc d 3 0 [(0, .ref dr), (1, .int m)] [] (mk sh M) = some (some (.int (if 1 ≤ m then dw (M.2.2 dr) m else 0)), mk sh (mJ M dr (nx (M.2.2 dr)))) := by
  by_cases c : 1 ≤ m
  · simp only [s3_0, s3_1, s3_2, s3_5, s3_8, s3_9, s3_12, s3_13, s3_16, s3_17, s3_18, s3_21, s3_22, s3_25, s3_26, s3_29, s3_31, s3_32, s3_33, s3_34, s3_35, s3_36, nl_sti, nl_str, nl_ci, nl_cr, nl_nil, ld_cons, ld_st, lr_some, li_some, lj_some, n2_nl, n2_ci, n2_cr, n2_nil, n2_sti, n2_str, tl_some, tl_none, cat_le, List.length_cons, List.length_nil, Option.bind_some, Option.bind_none, Option.map_some, cond_true, cond_false, Bool.and_true, Bool.true_and, reduceIte, Nat.reduceEqDiff, Nat.reduceAdd, Nat.reduceLeDiff, Nat.zero_add, Nat.zero_le, Nat.zero_ne_one, Nat.one_ne_zero, Nat.reduceLT, true_or, or_true, false_or, or_false, false_and, true_and, and_false, and_true, not_false_eq_true, not_true_eq_false, eq_self, mA_A, mA_I, mI_A, mI_I, b01, b10, b01n, b10n, i10, i01, im0, ei_max, ei_min, ei_obj, n30, n20, b011, b101, orn, nor, dneg, dnle, dne, dcl, cat0, cat1, cat2, cat3, cat4, Dr_gx hd, Dr_px hd, mJ_J, c, one64 c]
    rfl
  · simp only [s3_0, s3_1, s3_2, s3_5, s3_8, s3_9, s3_12, s3_13, s3_16, s3_17, s3_18, s3_21, s3_22, s3_25, s3_26, s3_29, s3_31, s3_32, s3_33, s3_34, s3_35, s3_36, nl_sti, nl_str, nl_ci, nl_cr, nl_nil, ld_cons, ld_st, lr_some, li_some, lj_some, n2_nl, n2_ci, n2_cr, n2_nil, n2_sti, n2_str, tl_some, tl_none, cat_le, List.length_cons, List.length_nil, Option.bind_some, Option.bind_none, Option.map_some, cond_true, cond_false, Bool.and_true, Bool.true_and, reduceIte, Nat.reduceEqDiff, Nat.reduceAdd, Nat.reduceLeDiff, Nat.zero_add, Nat.zero_le, Nat.zero_ne_one, Nat.one_ne_zero, Nat.reduceLT, true_or, or_true, false_or, or_false, false_and, true_and, and_false, and_true, not_false_eq_true, not_true_eq_false, eq_self, mA_A, mA_I, mI_A, mI_I, b01, b10, b01n, b10n, i10, i01, im0, ei_max, ei_min, ei_obj, n30, n20, b011, b101, orn, nor, dneg, dnle, dne, dcl, cat0, cat1, cat2, cat3, cat4, Dr_gx hd, Dr_px hd, mJ_J, c]
    rfl
theorem Md_only : ∀ j, ([0, (a + 1) + 3, 0, 0, 0, (a + 2) + 3, (a + 3) + 3, (a + 4) + 3, (a + 5) + 3, (a + 6) + 3, (a + 7) + 3, 0, 0, 0, (a + 8) + 3, (a + 9) + 3, (a + 10) + 3, (a + 11) + 3, 0, 0, 0, 0, 0, 0, 0, 0, 0, 0, 0, (a + 12) + 3, (a + 13) + 3, 0, 0, 0, 1, (a + 14) + 3] : List Nat)[j]? = some 1 → j = 34 := fun j hj => by
  rcases Nat.lt_or_ge j 36 with q | q
  · have : j = 0 ∨ j = 1 ∨ j = 2 ∨ j = 3 ∨ j = 4 ∨ j = 5 ∨ j = 6 ∨ j = 7 ∨ j = 8 ∨ j = 9 ∨ j = 10 ∨ j = 11 ∨ j = 12 ∨ j = 13 ∨ j = 14 ∨ j = 15 ∨ j = 16 ∨ j = 17 ∨ j = 18 ∨ j = 19 ∨ j = 20 ∨ j = 21 ∨ j = 22 ∨ j = 23 ∨ j = 24 ∨ j = 25 ∨ j = 26 ∨ j = 27 ∨ j = 28 ∨ j = 29 ∨ j = 30 ∨ j = 31 ∨ j = 32 ∨ j = 33 ∨ j = 34 ∨ j = 35 := by omega
    rcases this with rfl | rfl | rfl | rfl | rfl | rfl | rfl | rfl | rfl | rfl | rfl | rfl | rfl | rfl | rfl | rfl | rfl | rfl | rfl | rfl | rfl | rfl | rfl | rfl | rfl | rfl | rfl | rfl | rfl | rfl | rfl | rfl | rfl | rfl | rfl | rfl <;> first | rfl | (have h := Option.some.inj hj; omega) | cases hj
  · rw [List.getElem?_eq_none (by simpa using q)] at hj
    cases hj
theorem Md_gx (hS : ModSh sh a) : e_gf (mk sh (gl M a 15 W)) a 12 34 = some (.long (M.2.2 a)) := by
  rw [gf_mk (show shp sh (a + 0) = some (modE a 0) from hS 0 (by decide))]
  rfl
theorem Md_px (hS : ModSh sh a) {v : Int64} : e_pf (mk sh (gl M a 15 W)) a 12 34 (.long v) = some (mk sh (gl (mJ M a v) a 15 W)) := by
  rw [pfJ_mk (show shp sh (a + 0) = some (modE a 0) from hS 0 (by decide)) rfl Md_only rfl]
  rfl
theorem M_draw (hS : ModSh sh a) (hm : 1 ≤ m) : evp sc d 249 0 [(0, .ref a), (1, .int m)] [] (mk sh (gl M a 15 W)) = some (some (.int (dw (M.2.2 a) m)), mk sh (gl (mJ M a (nx (M.2.2 a))) a 15 W)) := by
  simp only [s249_0, s249_1, s249_2, s249_5, s249_8, s249_9, s249_12, s249_13, s249_16, s249_17, s249_20, s249_22, s249_23, s249_24, s249_25, s249_26, s249_27, nl_sti, nl_str, nl_ci, nl_cr, nl_nil, ld_cons, ld_st, lr_some, li_some, lj_some, n2_nl, n2_ci, n2_cr, n2_nil, n2_sti, n2_str, tl_some, tl_none, cat_le, List.length_cons, List.length_nil, Option.bind_some, Option.bind_none, Option.map_some, cond_true, cond_false, Bool.and_true, Bool.true_and, reduceIte, Nat.reduceEqDiff, Nat.reduceAdd, Nat.reduceLeDiff, Nat.zero_add, Nat.zero_le, Nat.zero_ne_one, Nat.one_ne_zero, Nat.reduceLT, true_or, or_true, false_or, or_false, false_and, true_and, and_false, and_true, not_false_eq_true, not_true_eq_false, eq_self, mA_A, mA_I, mI_A, mI_I, b01, b10, b01n, b10n, i10, i01, im0, ei_max, ei_min, ei_obj, n30, n20, b011, b101, orn, nor, dneg, dnle, dne, dcl, cat0, cat1, cat2, cat3, cat4, Md_gx hS, Md_px hS, mJ_J, one64 hm]
  rfl
end
