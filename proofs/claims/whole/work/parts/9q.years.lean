/-! YEARS: the draws -/
def nx (x : Int64) : Int64 := x * 6364136223846793005 + 1442695040888963407
def dw (x : Int64) (m : Int32) : Int32 := (((nx x).toUInt64 >>> ((33 : Int32).toInt64.toUInt64 &&& Int64.toUInt64 63)).toInt64 - ((nx x).toUInt64 >>> ((33 : Int32).toInt64.toUInt64 &&& Int64.toUInt64 63)).toInt64 / m.toInt64 * m.toInt64).toInt32
theorem mJ_J (M : aM) (a : Nat) (v : Int64) : (mJ M a v).2.2 a = v := by simp [mJ, upJ]
theorem mJ_I (M : aM) (a : Nat) (v : Int64) : (mJ M a v).1 = M.1 := rfl
theorem mJ_A (M : aM) (a : Nat) (v : Int64) : (mJ M a v).2.1 = M.2.1 := rfl
theorem mI_J (M : aM) (a k : Nat) (v : Int32) : (mI M a k v).2.2 = M.2.2 := rfl
theorem mJ_mJ (X : aM) (a : Nat) (u v : Int64) : mJ (mJ X a u) a v = mJ X a v := by
  show (X.1, X.2.1, upJ (upJ X.2.2 a u) a v) = (X.1, X.2.1, upJ X.2.2 a v)
  congr 2
  funext b
  unfold upJ
  split <;> rfl
theorem gl_mJ (M R : aM) (a n b : Nat) (v : Int64) : mJ (gl M a n R) b v = gl (mJ M b v) a n R := rfl
theorem pfJ_mk {sh : List sE} {M : aM} {a ci k : Nat} {fl : List Nat} {v : Int64} (hs : shp sh a = some (.inl (ci, fl))) (hk : fl[k]? = some 1) (hu : ∀ j, fl[j]? = some 1 → j = k) (hf : e_fit (pTy ci k) (.long v) = true) : e_pf (mk sh M) a ci k (.long v) = some (mk sh (mJ M a v)) := by
  unfold e_pf
  rw [e_c_mk, hs]
  have hl := (List.getElem?_eq_some_iff.mp hk).1
  simp only [Option.map_some, mkc, Nat.beq_refl, mkfs_len, Nat.blt_eq.mpr hl, hf, Bool.and_self, cond_true]
  congr 1
  refine mk_set0 hs ?_ (fun b t hb => mkc_offJ t hb)
  simp only [mkc]
  congr 2
  apply List.ext_getElem?
  intro j
  rw [List.getElem?_set, mkfs_len, mkfs_get, mkfs_get]
  by_cases hj : k = j
  · subst hj
    rw [if_pos rfl, if_pos hl, hk]
    simp [mkf, mJ, upJ]
  · rw [if_neg hj]
    cases hfj : fl[j]? with
    | none => rfl
    | some t =>
      have ht : ¬ t = 1 := fun e => hj (hu j (by rw [hfj, e])).symm
      simp only [Option.map_some, Nat.zero_add]
      congr 1
      match t, ht with
      | 0, _ => rfl
      | 1, h => exact absurd rfl h
      | 2, _ => rfl
      | r + 3, _ => rfl
theorem one64 {m : Int32} (h : 1 ≤ m) : (m.toInt64 = 0) = False := eq_false (fun e => by
  have e2 : m.toInt64.toInt = (0 : Int64).toInt := by rw [e]
  rw [Int32.toInt_toInt64] at e2
  rw [Int32.le_iff_toInt_le] at h
  have h1 : (1 : Int) ≤ m.toInt := h
  have h2 : m.toInt = 0 := e2
  omega)
section
variable {sc sc2 : aS} {d d2 : Nat} {sh sh2 : List sE} {M M2 W R : aM} {a a2 s tp sr p o dr rf kk : Nat} {n dl bal lv t B : Nat} {wl : Nat → List Sg} {al l : List (Nat → Int32)} {lg : LgT} {Ln : Nat → List (Option Se)} {x y v m w : Int32}
theorem dr_only : ∀ j, ([1, 0, 0, 0, 0, 0] : List Nat)[j]? = some 1 → j = 0 := fun j hj => by
  match j, hj with
  | 0, _ => rfl
  | 1, h => cases h
  | 2, h => cases h
  | 3, h => cases h
  | 4, h => cases h
  | 5, h => cases h
  | j + 6, h => cases h
theorem Dr_gx (hd : shp sh dr = some (.inl (0, [1, 0, 0, 0, 0, 0]))) : e_gf (mk sh M) dr 0 0 = some (.long (M.2.2 dr)) := by rw [gf_mk hd]; rfl
theorem Dr_px (hd : shp sh dr = some (.inl (0, [1, 0, 0, 0, 0, 0]))) {v : Int64} : e_pf (mk sh M) dr 0 0 (.long v) = some (mk sh (mJ M dr v)) := pfJ_mk hd rfl dr_only rfl
theorem Dr_g1 (hd : shp sh dr = some (.inl (0, [1, 0, 0, 0, 0, 0]))) : e_gf (mk sh M) dr 0 1 = some (.int (M.1 dr 1)) := by rw [gf_mk hd]; rfl
theorem Dr_g2 (hd : shp sh dr = some (.inl (0, [1, 0, 0, 0, 0, 0]))) : e_gf (mk sh M) dr 0 2 = some (.int (M.1 dr 2)) := by rw [gf_mk hd]; rfl
theorem Dr_g3 (hd : shp sh dr = some (.inl (0, [1, 0, 0, 0, 0, 0]))) : e_gf (mk sh M) dr 0 3 = some (.int (M.1 dr 3)) := by rw [gf_mk hd]; rfl
theorem Dr_g4 (hd : shp sh dr = some (.inl (0, [1, 0, 0, 0, 0, 0]))) : e_gf (mk sh M) dr 0 4 = some (.int (M.1 dr 4)) := by rw [gf_mk hd]; rfl
theorem Dr_g5 (hd : shp sh dr = some (.inl (0, [1, 0, 0, 0, 0, 0]))) : e_gf (mk sh M) dr 0 5 = some (.int (M.1 dr 5)) := by rw [gf_mk hd]; rfl
theorem Dr_p1 (hd : shp sh dr = some (.inl (0, [1, 0, 0, 0, 0, 0]))) {v : Int32} : e_pf (mk sh M) dr 0 1 (.int v) = some (mk sh (mI M dr 1 v)) := pfI_mk hd rfl rfl
theorem Dr_p2 (hd : shp sh dr = some (.inl (0, [1, 0, 0, 0, 0, 0]))) {v : Int32} : e_pf (mk sh M) dr 0 2 (.int v) = some (mk sh (mI M dr 2 v)) := pfI_mk hd rfl rfl
theorem Dr_p3 (hd : shp sh dr = some (.inl (0, [1, 0, 0, 0, 0, 0]))) {v : Int32} : e_pf (mk sh M) dr 0 3 (.int v) = some (mk sh (mI M dr 3 v)) := pfI_mk hd rfl rfl
theorem Dr_p4 (hd : shp sh dr = some (.inl (0, [1, 0, 0, 0, 0, 0]))) {v : Int32} : e_pf (mk sh M) dr 0 4 (.int v) = some (mk sh (mI M dr 4 v)) := pfI_mk hd rfl rfl
theorem Dr_p5 (hd : shp sh dr = some (.inl (0, [1, 0, 0, 0, 0, 0]))) {v : Int32} : e_pf (mk sh M) dr 0 5 (.int v) = some (mk sh (mI M dr 5 v)) := pfI_mk hd rfl rfl
theorem Dr_c (hd : shp sh dr = some (.inl (0, [1, 0, 0, 0, 0, 0]))) : e_isC (mk sh M) dr 0 = true := isC_mk hd
theorem D_draw (hd : shp sh dr = some (.inl (0, [1, 0, 0, 0, 0, 0]))) : evp sc d 3 0 [(0, .ref dr), (1, .int m)] [] (mk sh M) = some (some (.int (if 1 ≤ m then dw (M.2.2 dr) m else 0)), mk sh (mJ M dr (nx (M.2.2 dr)))) := by
  by_cases c : 1 ≤ m
  · simp only [s3_0, s3_1, s3_2, s3_5, s3_8, s3_9, s3_12, s3_13, s3_16, s3_17, s3_18, s3_21, s3_22, s3_25, s3_26, s3_29, s3_31, s3_32, s3_33, s3_34, s3_35, s3_36, nl_sti, nl_str, nl_ci, nl_cr, nl_nil, ld_cons, ld_st, lr_some, li_some, lj_some, n2_nl, n2_ci, n2_cr, n2_nil, n2_sti, n2_str, tl_some, tl_none, cat_le, List.length_cons, List.length_nil, Option.bind_some, Option.bind_none, Option.map_some, cond_true, cond_false, Bool.and_true, Bool.true_and, reduceIte, Nat.reduceEqDiff, Nat.reduceAdd, Nat.reduceLeDiff, Nat.zero_add, Nat.zero_le, Nat.zero_ne_one, Nat.one_ne_zero, Nat.reduceLT, true_or, or_true, false_or, or_false, false_and, true_and, and_false, and_true, not_false_eq_true, not_true_eq_false, eq_self, mA_A, mA_I, mI_A, mI_I, b01, b10, b01n, b10n, i10, i01, im0, ei_max, ei_min, ei_obj, n30, n20, b011, b101, orn, nor, dneg, dnle, dne, dcl, cat0, cat1, cat2, cat3, cat4, Dr_gx hd, Dr_px hd, mJ_J, c, one64 c]
    rfl
  · simp only [s3_0, s3_1, s3_2, s3_5, s3_8, s3_9, s3_12, s3_13, s3_16, s3_17, s3_18, s3_21, s3_22, s3_25, s3_26, s3_29, s3_31, s3_32, s3_33, s3_34, s3_35, s3_36, nl_sti, nl_str, nl_ci, nl_cr, nl_nil, ld_cons, ld_st, lr_some, li_some, lj_some, n2_nl, n2_ci, n2_cr, n2_nil, n2_sti, n2_str, tl_some, tl_none, cat_le, List.length_cons, List.length_nil, Option.bind_some, Option.bind_none, Option.map_some, cond_true, cond_false, Bool.and_true, Bool.true_and, reduceIte, Nat.reduceEqDiff, Nat.reduceAdd, Nat.reduceLeDiff, Nat.zero_add, Nat.zero_le, Nat.zero_ne_one, Nat.one_ne_zero, Nat.reduceLT, true_or, or_true, false_or, or_false, false_and, true_and, and_false, and_true, not_false_eq_true, not_true_eq_false, eq_self, mA_A, mA_I, mI_A, mI_I, b01, b10, b01n, b10n, i10, i01, im0, ei_max, ei_min, ei_obj, n30, n20, b011, b101, orn, nor, dneg, dnle, dne, dcl, cat0, cat1, cat2, cat3, cat4, Dr_gx hd, Dr_px hd, mJ_J, c]
    rfl
theorem Md_only : ∀ j, ([0, (a + 1) + 3, 0, 0, 0, (a + 2) + 3, (a + 3) + 3, (a + 4) + 3, (a + 5) + 3, (a + 6) + 3, (a + 7) + 3, 0, 0, 0, (a + 8) + 3, (a + 9) + 3, (a + 10) + 3, (a + 11) + 3, 0, 0, 0, 0, 0, 0, 0, 0, 0, 0, 0, (a + 12) + 3, (a + 13) + 3, 0, 0, 0, 1, (a + 14) + 3] : List Nat)[j]? = some 1 → j = 34 := fun j hj => by
  rcases Nat.lt_or_ge j 36 with q | q
  · have : j = 0 ∨ j = 1 ∨ j = 2 ∨ j = 3 ∨ j = 4 ∨ j = 5 ∨ j = 6 ∨ j = 7 ∨ j = 8 ∨ j = 9 ∨ j = 10 ∨ j = 11 ∨ j = 12 ∨ j = 13 ∨ j = 14 ∨ j = 15 ∨ j = 16 ∨ j = 17 ∨ j = 18 ∨ j = 19 ∨ j = 20 ∨ j = 21 ∨ j = 22 ∨ j = 23 ∨ j = 24 ∨ j = 25 ∨ j = 26 ∨ j = 27 ∨ j = 28 ∨ j = 29 ∨ j = 30 ∨ j = 31 ∨ j = 32 ∨ j = 33 ∨ j = 34 ∨ j = 35 := by omega
    rcases this with rfl | rfl | rfl | rfl | rfl | rfl | rfl | rfl | rfl | rfl | rfl | rfl | rfl | rfl | rfl | rfl | rfl | rfl | rfl | rfl | rfl | rfl | rfl | rfl | rfl | rfl | rfl | rfl | rfl | rfl | rfl | rfl | rfl | rfl | rfl | rfl <;> first | rfl | (have h := Option.some.inj hj; omega) | cases hj
  · rw [List.getElem?_eq_none (by simpa using q)] at hj
    cases hj
theorem Md_gx (hS : ModSh sh a) : e_gf (mk sh (gl M a 15 W)) a 12 34 = some (.long (M.2.2 a)) := by
  rw [gf_mk (show shp sh a = some (modE a 0) from hS 0 (by decide))]
  rfl
theorem Md_px (hS : ModSh sh a) {v : Int64} : e_pf (mk sh (gl M a 15 W)) a 12 34 (.long v) = some (mk sh (gl (mJ M a v) a 15 W)) := by
  rw [pfJ_mk (show shp sh a = some (modE a 0) from hS 0 (by decide)) rfl Md_only rfl]
  rfl
theorem M_draw (hS : ModSh sh a) (hm : 1 ≤ m) : evp sc d 249 0 [(0, .ref a), (1, .int m)] [] (mk sh (gl M a 15 W)) = some (some (.int (dw (M.2.2 a) m)), mk sh (gl (mJ M a (nx (M.2.2 a))) a 15 W)) := by
  simp only [s249_0, s249_1, s249_2, s249_5, s249_8, s249_9, s249_12, s249_13, s249_16, s249_17, s249_20, s249_22, s249_23, s249_24, s249_25, s249_26, s249_27, nl_sti, nl_str, nl_ci, nl_cr, nl_nil, ld_cons, ld_st, lr_some, li_some, lj_some, n2_nl, n2_ci, n2_cr, n2_nil, n2_sti, n2_str, tl_some, tl_none, cat_le, List.length_cons, List.length_nil, Option.bind_some, Option.bind_none, Option.map_some, cond_true, cond_false, Bool.and_true, Bool.true_and, reduceIte, Nat.reduceEqDiff, Nat.reduceAdd, Nat.reduceLeDiff, Nat.zero_add, Nat.zero_le, Nat.zero_ne_one, Nat.one_ne_zero, Nat.reduceLT, true_or, or_true, false_or, or_false, false_and, true_and, and_false, and_true, not_false_eq_true, not_true_eq_false, eq_self, mA_A, mA_I, mI_A, mI_I, b01, b10, b01n, b10n, i10, i01, im0, ei_max, ei_min, ei_obj, n30, n20, b011, b101, orn, nor, dneg, dnle, dne, dcl, cat0, cat1, cat2, cat3, cat4, Md_gx hS, Md_px hS, mJ_J, one64 hm]
  rfl
theorem nl_cj (L : aL) (i k : Nat) (v : Int64) : e_nl ((i, .long v) :: L) k = if k = i + 1 then false else e_nl L k := by
  cases k with
  | zero => rw [if_neg (by omega)]; rfl
  | succ j =>
    show (match e_ld ((i, .long v) :: L) j with
      | some v => Nat.beq v.category 1
      | none => true) = _
    rw [ld_cons]
    by_cases h : j = i
    · rw [if_pos h, if_pos (by omega)]; rfl
    · rw [if_neg h, if_neg (by omega)]; rfl
/-- an act is drawn, both alike -/
def YR (sc sc2 : aS) (d d2 : Nat) (sh sh2 : List sE) (M M2 W : aM) (a a2 dr : Nat) : Prop :=
    ∃ (M1 : aM) (kd : Nat) (v : Int64) (y' v' m' : Int32), kd ≤ 4 ∧ evp sc (d + 2) 2 0 [(0, .ref dr), (1, .ref a)] [] (mk sh M) = some (none, mk sh M1) ∧ M1.1 dr 1 = nI kd ∧ M1.2.2 dr = v ∧ (∀ x, ¬ x = dr → M1.1 x = M.1 x) ∧ M1.2.1 = M.2.1 ∧ AgS kd (M1.1 dr 3) (M1.1 dr 4) (M1.1 dr 5) y' v' m' ∧
      ∀ (r : Int32) (h' : aH), evp sc2 (d2 + 11) 240 0 [(0, .ref a2), (1, .int (nI kd)), (2, .int (M1.1 dr 2)), (3, .int y'), (4, .int v'), (5, .int m')] [] (mk sh2 (gl (mJ M2 a2 v) a2 15 W)) = some (some (.int r), h') → evp sc2 (d2 + 12) 250 0 [(0, .ref a2)] [] (mk sh2 (gl M2 a2 15 W)) = some (some (.int r), h')
theorem Y_A {N : Int64 → Int64} {D : Int64 → Int32 → Int32} (hDd : ∀ (d : Nat) (M : aM) (m : Int32), evp sc d 3 0 [(0, .ref dr), (1, .int m)] [] (mk sh M) = some (some (.int (if 1 ≤ m then D (M.2.2 dr) m else 0)), mk sh (mJ M dr (N (M.2.2 dr))))) (dM : ∀ (X : aM) (m : Int32), 1 ≤ m → evp sc2 (d2 + 11) 249 0 [(0, .ref a2), (1, .int m)] [] (mk sh2 (gl X a2 15 W)) = some (some (.int (D (X.2.2 a2) m)), mk sh2 (gl (mJ X a2 (N (X.2.2 a2))) a2 15 W))) (hd : shp sh dr = some (.inl (0, [1, 0, 0, 0, 0, 0]))) (hT : RowSh sh a) (hda : dr < a ∨ a + 31 ≤ dr) (hS2 : ModSh sh2 a2) (h : RI (lc M a) (W.2.1 8) n dl bal lv t B wl al lg Ln) (hW : cW W n dl bal lv) (hx : M.2.2 dr = M2.2.2 a2) (c1 : D (M2.2.2 a2) 8 ≤ 3) : YR sc sc2 d d2 sh sh2 M M2 W a a2 dr := by
  obtain ⟨⟨o1, o2, o3, o4, o5, o6, o7, o8⟩, t1, t2, t3, t4, t5, t6, t7⟩ := h.1
  have m0 : M.1 a 0 = nI n := o1
  have m3 : M.1 a 3 = nI lv := o5
  have m5 : M.1 a 5 = W.2.1 8 1550 := t4
  obtain ⟨w1, w2, w3, w4⟩ := hW
  have Ro_3 : ∀ X : aM, e_gf (mk sh X) a 5 3 = some (.int (X.1 a 3)) := fun X => by rw [gf_mk (show shp sh a = some (rowE a 0) from hT 0 (by decide))]; rfl
  have Ro_5 : ∀ X : aM, e_gf (mk sh X) a 5 5 = some (.int (X.1 a 5)) := fun X => by rw [gf_mk (show shp sh a = some (rowE a 0) from hT 0 (by decide))]; rfl
  have ne : (a = dr) = False := eq_false (by omega)
  have l8 : ((1 : Int32) ≤ 8) = True := by decide
  have l9 : ((1 : Int32) ≤ 9) = True := by decide
  have ln : ((1 : Int32) ≤ nI n) = True := eq_true (nI_le (a := 1) (by omega) (by omega))
  have lv' : ((1 : Int32) ≤ nI lv) = True := eq_true (nI_le (a := 1) (by omega) (by omega))
  have en1 : nI n - 1 = nI (n - 1) := nI_pr (by omega)
  have ln1 : ((1 : Int32) ≤ nI (n - 1)) = True := eq_true (nI_le (a := 1) (by omega) (by omega))
  have e4 : ∀ z : Int32, ((4 : Int32) ≤ z) = (¬ z ≤ 3) := fun z => by
    rw [show (4 : Int32) = nI (3 + 1) from rfl, le_succ (by decide)]
    exact propext Int32.not_le.symm
  have e6 : ∀ z : Int32, ((6 : Int32) ≤ z) = (¬ z ≤ 5) := fun z => by
    rw [show (6 : Int32) = nI (5 + 1) from rfl, le_succ (by decide)]
    exact propext Int32.not_le.symm
  have g3 : ∀ z : Int32, ((3 : Int32) < z) = (¬ z ≤ 3) := fun z => propext Int32.not_le.symm
  have g5 : ∀ z : Int32, ((5 : Int32) < z) = (¬ z ≤ 5) := fun z => propext Int32.not_le.symm
  have i3 : ((3 : Int32) < 0 ∨ 5 ≤ (3 : Int32).toNatClampNeg) = False := by decide
  have i55 : ((1550 : Int32) < 0 ∨ 1922 ≤ (1550 : Int32).toNatClampNeg) = False := by decide
  have c3 : (3 : Int32).toNatClampNeg = 3 := by decide
  have d8 := fun X : aM => dM X 8 (by decide)
  have d9 := fun X : aM => dM X 9 (by decide)
  have dn := fun X : aM => dM X (nI n) (of_eq_true ln)
  have dl' := fun X : aM => dM X (nI lv) (of_eq_true lv')
  have dn1 := fun X : aM => dM X (nI (n - 1)) (of_eq_true ln1)
  have cM2 : ∀ X : aM, e_isC (mk sh2 (gl X a2 15 W)) a2 12 = true := fun X => isC_mk (show shp sh2 a2 = some (modE a2 0) from hS2 0 (by decide))
  have c1e : (D (M2.2.2 a2) 8 ≤ 3) = True := eq_true c1
  have c5 : ∀ (a b c e : Int32) (r : Nat), e_cat [.int a, .int b, .int c, .int e, .ref r] = true := fun _ _ _ _ _ => rfl
  refine ⟨(mI (mJ (mI (mJ (mI (mJ (mI (mJ (mI (mJ M dr (N (M2.2.2 a2))) dr 1 0) dr (N (N (M2.2.2 a2)))) dr 2 (D (N (M2.2.2 a2)) (nI n))) dr (N (N (N (M2.2.2 a2))))) dr 3 (D (N (N (M2.2.2 a2))) (nI n))) dr (N (N (N (N (M2.2.2 a2)))))) dr 4 (D (N (N (N (M2.2.2 a2)))) (nI lv))) dr (N (N (N (N (N (M2.2.2 a2))))))) dr 5 (D (N (N (N (N (M2.2.2 a2))))) 9 + 1)), 0, (N (N (N (N (N (M2.2.2 a2)))))), D (N (N (M2.2.2 a2))) (nI n), D (N (N (N (M2.2.2 a2)))) (nI lv), D (N (N (N (N (M2.2.2 a2))))) 9 + 1, by decide, ?_, ?_, ?_, ?_, rfl, ?_, ?_⟩
  · simp only [s2_0, s2_1, s2_3, s2_6, s2_7, s2_8, s2_9, s2_12, s2_13, s2_14, s2_17, s2_18, s2_19, s2_20, s2_23, s2_26, s2_29, s2_30, s2_31, s2_32, s2_35, s2_38, s2_41, s2_42, s2_43, s2_44, s2_47, s2_50, s2_53, s2_54, s2_55, s2_57, s2_60, s2_61, s2_62, s2_65, s2_68, s2_69, s2_70, s2_73, s2_74, s2_75, s2_78, s2_79, s2_80, s2_82, s2_85, s2_86, s2_87, s2_90, s2_93, s2_94, s2_96, s2_99, s2_100, s2_101, s2_104, s2_105, s2_106, s2_107, s2_110, s2_113, s2_116, s2_119, s2_120, s2_121, s2_122, s2_125, s2_126, s2_127, s2_130, s2_133, s2_134, s2_135, s2_138, s2_139, s2_142, s2_145, s2_148, s2_149, s2_152, s2_153, s2_156, nl_sti, nl_str, nl_ci, nl_cr, nl_nil, ld_cons, ld_st, lr_some, li_some, lj_some, n2_nl, n2_ci, n2_cr, n2_nil, n2_sti, n2_str, tl_some, tl_none, cat_le, List.length_cons, List.length_nil, Option.bind_some, Option.bind_none, Option.map_some, cond_true, cond_false, Bool.and_true, Bool.true_and, reduceIte, Nat.reduceEqDiff, Nat.reduceAdd, Nat.reduceLeDiff, Nat.zero_add, Nat.zero_le, Nat.zero_ne_one, Nat.one_ne_zero, Nat.reduceLT, true_or, or_true, false_or, or_false, false_and, true_and, and_false, and_true, not_false_eq_true, not_true_eq_false, eq_self, mA_A, mA_I, mI_A, mI_I, b01, b10, b01n, b10n, i10, i01, im0, ei_max, ei_min, ei_obj, n30, n20, b011, b101, orn, nor, dneg, dnle, dne, dcl, cat0, cat1, cat2, cat3, cat4, hDd, Dr_c hd, Dr_g2 hd, Dr_p1 hd, Dr_p2 hd, Dr_p3 hd, Dr_p4 hd, Dr_p5 hd, Ro_0 hT, Ro_3, Ro_5, mJ_I, mJ_J, mI_J, hx, l8, l9, c1e, g3, g5, m0, m3, m5, ne, ln, lv', en1, ln1, X_hasBit]
  · simp only [mI_I, mJ_I, Nat.reduceEqDiff, and_false, and_true, and_self, if_false, if_true, reduceIte]
    try rfl
  · simp only [mI_J, mJ_J]
  · intro x hx'
    simp only [mI_o hx', mJ_I]
  · exact Or.inl ⟨by simp only [mI_I, mJ_I, Nat.reduceEqDiff, and_false, and_true, and_self, if_false, if_true, reduceIte], by simp only [mI_I, mJ_I, Nat.reduceEqDiff, and_false, and_true, and_self, if_false, if_true, reduceIte], by simp only [mI_I, mJ_I, Nat.reduceEqDiff, and_false, and_true, and_self, if_false, if_true, reduceIte]⟩
  · intro r h' hr
    simp only [mI_I, mJ_I, Nat.reduceEqDiff, and_false, and_true, and_self, if_false, if_true, reduceIte] at hr
    simp only [s250_0, s250_1, s250_3, s250_6, s250_7, s250_8, s250_9, s250_12, s250_13, s250_14, s250_17, s250_20, s250_21, s250_22, s250_23, s250_26, s250_29, s250_30, s250_31, s250_32, s250_35, s250_36, s250_37, s250_40, s250_42, s250_43, s250_44, s250_45, s250_46, s250_48, s250_49, s250_51, s250_54, s250_55, s250_56, s250_60, s250_61, s250_63, s250_66, s250_67, s250_68, s250_69, s250_71, s250_74, s250_75, s250_76, s250_77, s250_78, s250_79, s250_83, s250_84, s250_86, s250_89, s250_90, s250_91, s250_92, s250_93, s250_96, s250_99, s250_100, s250_101, s250_102, s250_106, s250_107, s250_108, s250_111, s250_112, s250_113, s250_116, s250_117, s250_118, s250_119, s250_122, s250_125, s250_126, s250_127, s250_130, s250_133, s250_134, s250_137, s250_138, s250_139, s250_140, s250_141, s250_142, nl_sti, nl_str, nl_ci, nl_cr, nl_nil, ld_cons, ld_st, lr_some, li_some, lj_some, n2_nl, n2_ci, n2_cr, n2_nil, n2_sti, n2_str, tl_some, tl_none, cat_le, List.length_cons, List.length_nil, Option.bind_some, Option.bind_none, Option.map_some, cond_true, cond_false, Bool.and_true, Bool.true_and, reduceIte, Nat.reduceEqDiff, Nat.reduceAdd, Nat.reduceLeDiff, Nat.zero_add, Nat.zero_le, Nat.zero_ne_one, Nat.one_ne_zero, Nat.reduceLT, true_or, or_true, false_or, or_false, false_and, true_and, and_false, and_true, not_false_eq_true, not_true_eq_false, eq_self, mA_A, mA_I, mI_A, mI_I, b01, b10, b01n, b10n, i10, i01, im0, ei_max, ei_min, ei_obj, n30, n20, b011, b101, orn, nor, dneg, dnle, dne, dcl, cat0, cat1, cat2, cat3, cat4, cl0, ng0, cl1, ng1, cl2, ng2, cl3, ng3, cl4, ng4, cl5, ng5, cl6, ng6, cl7, ng7, cl8, ng8, cl39, ng39, cl40, ng40, cl60, ng60, cl1550, ng1550, cl1551, ng1551, cl1552, ng1552, cl1553, ng1553, cl1554, ng1554, cl1555, ng1555, cl1556, ng1556, cl1557, ng1557, cl1580, ng1580, cl1741, ng1741, gM6, gM12, pM12, gM14, cM, aM3, wM3, aM8, wM8, hS2, cM2, d8, d9, dn, dl', dn1, mJ_J, mJ_mJ, w1, w4, e4, e6, c1e, i3, c3, i55, en1, M_has, lts, show nI 0 = (0 : Int32) from rfl] at hr ⊢
    simp only [hr, nl_sti, nl_str, nl_ci, nl_cr, nl_nil, ld_cons, ld_st, lr_some, li_some, lj_some, n2_nl, n2_ci, n2_cr, n2_nil, n2_sti, n2_str, tl_some, tl_none, cat_le, List.length_cons, List.length_nil, Option.bind_some, Option.bind_none, Option.map_some, cond_true, cond_false, Bool.and_true, Bool.true_and, reduceIte, Nat.reduceEqDiff, Nat.reduceAdd, Nat.reduceLeDiff, Nat.zero_add, Nat.zero_le, Nat.zero_ne_one, Nat.one_ne_zero, Nat.reduceLT, true_or, or_true, false_or, or_false, false_and, true_and, and_false, and_true, not_false_eq_true, not_true_eq_false, eq_self, mA_A, mA_I, mI_A, mI_I, b01, b10, b01n, b10n, i10, i01, im0, ei_max, ei_min, ei_obj, n30, n20, c5, s250_59, s250_82, s250_105, s250_145]
theorem Y_B {N : Int64 → Int64} {D : Int64 → Int32 → Int32} (hDd : ∀ (d : Nat) (M : aM) (m : Int32), evp sc d 3 0 [(0, .ref dr), (1, .int m)] [] (mk sh M) = some (some (.int (if 1 ≤ m then D (M.2.2 dr) m else 0)), mk sh (mJ M dr (N (M.2.2 dr))))) (dM : ∀ (X : aM) (m : Int32), 1 ≤ m → evp sc2 (d2 + 11) 249 0 [(0, .ref a2), (1, .int m)] [] (mk sh2 (gl X a2 15 W)) = some (some (.int (D (X.2.2 a2) m)), mk sh2 (gl (mJ X a2 (N (X.2.2 a2))) a2 15 W))) (hd : shp sh dr = some (.inl (0, [1, 0, 0, 0, 0, 0]))) (hT : RowSh sh a) (hda : dr < a ∨ a + 31 ≤ dr) (hS2 : ModSh sh2 a2) (h : RI (lc M a) (W.2.1 8) n dl bal lv t B wl al lg Ln) (hW : cW W n dl bal lv) (hx : M.2.2 dr = M2.2.2 a2) (c1 : ¬ D (M2.2.2 a2) 8 ≤ 3) (c2 : D (M2.2.2 a2) 8 ≤ 5) : YR sc sc2 d d2 sh sh2 M M2 W a a2 dr := by
  obtain ⟨⟨o1, o2, o3, o4, o5, o6, o7, o8⟩, t1, t2, t3, t4, t5, t6, t7⟩ := h.1
  have m0 : M.1 a 0 = nI n := o1
  have m3 : M.1 a 3 = nI lv := o5
  have m5 : M.1 a 5 = W.2.1 8 1550 := t4
  obtain ⟨w1, w2, w3, w4⟩ := hW
  have Ro_3 : ∀ X : aM, e_gf (mk sh X) a 5 3 = some (.int (X.1 a 3)) := fun X => by rw [gf_mk (show shp sh a = some (rowE a 0) from hT 0 (by decide))]; rfl
  have Ro_5 : ∀ X : aM, e_gf (mk sh X) a 5 5 = some (.int (X.1 a 5)) := fun X => by rw [gf_mk (show shp sh a = some (rowE a 0) from hT 0 (by decide))]; rfl
  have ne : (a = dr) = False := eq_false (by omega)
  have l8 : ((1 : Int32) ≤ 8) = True := by decide
  have l9 : ((1 : Int32) ≤ 9) = True := by decide
  have ln : ((1 : Int32) ≤ nI n) = True := eq_true (nI_le (a := 1) (by omega) (by omega))
  have lv' : ((1 : Int32) ≤ nI lv) = True := eq_true (nI_le (a := 1) (by omega) (by omega))
  have en1 : nI n - 1 = nI (n - 1) := nI_pr (by omega)
  have ln1 : ((1 : Int32) ≤ nI (n - 1)) = True := eq_true (nI_le (a := 1) (by omega) (by omega))
  have e4 : ∀ z : Int32, ((4 : Int32) ≤ z) = (¬ z ≤ 3) := fun z => by
    rw [show (4 : Int32) = nI (3 + 1) from rfl, le_succ (by decide)]
    exact propext Int32.not_le.symm
  have e6 : ∀ z : Int32, ((6 : Int32) ≤ z) = (¬ z ≤ 5) := fun z => by
    rw [show (6 : Int32) = nI (5 + 1) from rfl, le_succ (by decide)]
    exact propext Int32.not_le.symm
  have g3 : ∀ z : Int32, ((3 : Int32) < z) = (¬ z ≤ 3) := fun z => propext Int32.not_le.symm
  have g5 : ∀ z : Int32, ((5 : Int32) < z) = (¬ z ≤ 5) := fun z => propext Int32.not_le.symm
  have i3 : ((3 : Int32) < 0 ∨ 5 ≤ (3 : Int32).toNatClampNeg) = False := by decide
  have i55 : ((1550 : Int32) < 0 ∨ 1922 ≤ (1550 : Int32).toNatClampNeg) = False := by decide
  have c3 : (3 : Int32).toNatClampNeg = 3 := by decide
  have d8 := fun X : aM => dM X 8 (by decide)
  have d9 := fun X : aM => dM X 9 (by decide)
  have dn := fun X : aM => dM X (nI n) (of_eq_true ln)
  have dl' := fun X : aM => dM X (nI lv) (of_eq_true lv')
  have dn1 := fun X : aM => dM X (nI (n - 1)) (of_eq_true ln1)
  have cM2 : ∀ X : aM, e_isC (mk sh2 (gl X a2 15 W)) a2 12 = true := fun X => isC_mk (show shp sh2 a2 = some (modE a2 0) from hS2 0 (by decide))
  have c1e : (D (M2.2.2 a2) 8 ≤ 3) = False := eq_false c1
  have c2e : (D (M2.2.2 a2) 8 ≤ 5) = True := eq_true c2
  have c5 : ∀ (a b c e : Int32) (r : Nat), e_cat [.int a, .int b, .int c, .int e, .ref r] = true := fun _ _ _ _ _ => rfl
  refine ⟨(mI (mJ (mI (mJ M dr (N (M2.2.2 a2))) dr 1 1) dr (N (N (M2.2.2 a2)))) dr 2 (D (N (M2.2.2 a2)) 9 + 1)), 1, (N (N (M2.2.2 a2))), 0, 0, 0, by decide, ?_, ?_, ?_, ?_, rfl, ?_, ?_⟩
  · simp only [s2_0, s2_1, s2_3, s2_6, s2_7, s2_8, s2_9, s2_12, s2_13, s2_14, s2_17, s2_18, s2_19, s2_20, s2_23, s2_26, s2_29, s2_30, s2_31, s2_32, s2_35, s2_38, s2_41, s2_42, s2_43, s2_44, s2_47, s2_50, s2_53, s2_54, s2_55, s2_57, s2_60, s2_61, s2_62, s2_65, s2_68, s2_69, s2_70, s2_73, s2_74, s2_75, s2_78, s2_79, s2_80, s2_82, s2_85, s2_86, s2_87, s2_90, s2_93, s2_94, s2_96, s2_99, s2_100, s2_101, s2_104, s2_105, s2_106, s2_107, s2_110, s2_113, s2_116, s2_119, s2_120, s2_121, s2_122, s2_125, s2_126, s2_127, s2_130, s2_133, s2_134, s2_135, s2_138, s2_139, s2_142, s2_145, s2_148, s2_149, s2_152, s2_153, s2_156, nl_sti, nl_str, nl_ci, nl_cr, nl_nil, ld_cons, ld_st, lr_some, li_some, lj_some, n2_nl, n2_ci, n2_cr, n2_nil, n2_sti, n2_str, tl_some, tl_none, cat_le, List.length_cons, List.length_nil, Option.bind_some, Option.bind_none, Option.map_some, cond_true, cond_false, Bool.and_true, Bool.true_and, reduceIte, Nat.reduceEqDiff, Nat.reduceAdd, Nat.reduceLeDiff, Nat.zero_add, Nat.zero_le, Nat.zero_ne_one, Nat.one_ne_zero, Nat.reduceLT, true_or, or_true, false_or, or_false, false_and, true_and, and_false, and_true, not_false_eq_true, not_true_eq_false, eq_self, mA_A, mA_I, mI_A, mI_I, b01, b10, b01n, b10n, i10, i01, im0, ei_max, ei_min, ei_obj, n30, n20, b011, b101, orn, nor, dneg, dnle, dne, dcl, cat0, cat1, cat2, cat3, cat4, hDd, Dr_c hd, Dr_g2 hd, Dr_p1 hd, Dr_p2 hd, Dr_p3 hd, Dr_p4 hd, Dr_p5 hd, Ro_0 hT, Ro_3, Ro_5, mJ_I, mJ_J, mI_J, hx, l8, l9, c1e, c2e, g3, g5, m0, m3, m5, ne, ln, lv', en1, ln1, X_hasBit]
  · simp only [mI_I, mJ_I, Nat.reduceEqDiff, and_false, and_true, and_self, if_false, if_true, reduceIte]
    try rfl
  · simp only [mI_J, mJ_J]
  · intro x hx'
    simp only [mI_o hx', mJ_I]
  · exact Or.inr (by decide)
  · intro r h' hr
    simp only [mI_I, mJ_I, Nat.reduceEqDiff, and_false, and_true, and_self, if_false, if_true, reduceIte] at hr
    simp only [s250_0, s250_1, s250_3, s250_6, s250_7, s250_8, s250_9, s250_12, s250_13, s250_14, s250_17, s250_20, s250_21, s250_22, s250_23, s250_26, s250_29, s250_30, s250_31, s250_32, s250_35, s250_36, s250_37, s250_40, s250_42, s250_43, s250_44, s250_45, s250_46, s250_48, s250_49, s250_51, s250_54, s250_55, s250_56, s250_60, s250_61, s250_63, s250_66, s250_67, s250_68, s250_69, s250_71, s250_74, s250_75, s250_76, s250_77, s250_78, s250_79, s250_83, s250_84, s250_86, s250_89, s250_90, s250_91, s250_92, s250_93, s250_96, s250_99, s250_100, s250_101, s250_102, s250_106, s250_107, s250_108, s250_111, s250_112, s250_113, s250_116, s250_117, s250_118, s250_119, s250_122, s250_125, s250_126, s250_127, s250_130, s250_133, s250_134, s250_137, s250_138, s250_139, s250_140, s250_141, s250_142, nl_sti, nl_str, nl_ci, nl_cr, nl_nil, ld_cons, ld_st, lr_some, li_some, lj_some, n2_nl, n2_ci, n2_cr, n2_nil, n2_sti, n2_str, tl_some, tl_none, cat_le, List.length_cons, List.length_nil, Option.bind_some, Option.bind_none, Option.map_some, cond_true, cond_false, Bool.and_true, Bool.true_and, reduceIte, Nat.reduceEqDiff, Nat.reduceAdd, Nat.reduceLeDiff, Nat.zero_add, Nat.zero_le, Nat.zero_ne_one, Nat.one_ne_zero, Nat.reduceLT, true_or, or_true, false_or, or_false, false_and, true_and, and_false, and_true, not_false_eq_true, not_true_eq_false, eq_self, mA_A, mA_I, mI_A, mI_I, b01, b10, b01n, b10n, i10, i01, im0, ei_max, ei_min, ei_obj, n30, n20, b011, b101, orn, nor, dneg, dnle, dne, dcl, cat0, cat1, cat2, cat3, cat4, cl0, ng0, cl1, ng1, cl2, ng2, cl3, ng3, cl4, ng4, cl5, ng5, cl6, ng6, cl7, ng7, cl8, ng8, cl39, ng39, cl40, ng40, cl60, ng60, cl1550, ng1550, cl1551, ng1551, cl1552, ng1552, cl1553, ng1553, cl1554, ng1554, cl1555, ng1555, cl1556, ng1556, cl1557, ng1557, cl1580, ng1580, cl1741, ng1741, gM6, gM12, pM12, gM14, cM, aM3, wM3, aM8, wM8, hS2, cM2, d8, d9, dn, dl', dn1, mJ_J, mJ_mJ, w1, w4, e4, e6, c1e, c2e, i3, c3, i55, en1, M_has, lts, show nI 1 = (1 : Int32) from rfl] at hr ⊢
    simp only [hr, nl_sti, nl_str, nl_ci, nl_cr, nl_nil, ld_cons, ld_st, lr_some, li_some, lj_some, n2_nl, n2_ci, n2_cr, n2_nil, n2_sti, n2_str, tl_some, tl_none, cat_le, List.length_cons, List.length_nil, Option.bind_some, Option.bind_none, Option.map_some, cond_true, cond_false, Bool.and_true, Bool.true_and, reduceIte, Nat.reduceEqDiff, Nat.reduceAdd, Nat.reduceLeDiff, Nat.zero_add, Nat.zero_le, Nat.zero_ne_one, Nat.one_ne_zero, Nat.reduceLT, true_or, or_true, false_or, or_false, false_and, true_and, and_false, and_true, not_false_eq_true, not_true_eq_false, eq_self, mA_A, mA_I, mI_A, mI_I, b01, b10, b01n, b10n, i10, i01, im0, ei_max, ei_min, ei_obj, n30, n20, c5, s250_59, s250_82, s250_105, s250_145]
theorem Y_C {N : Int64 → Int64} {D : Int64 → Int32 → Int32} (hDd : ∀ (d : Nat) (M : aM) (m : Int32), evp sc d 3 0 [(0, .ref dr), (1, .int m)] [] (mk sh M) = some (some (.int (if 1 ≤ m then D (M.2.2 dr) m else 0)), mk sh (mJ M dr (N (M.2.2 dr))))) (dM : ∀ (X : aM) (m : Int32), 1 ≤ m → evp sc2 (d2 + 11) 249 0 [(0, .ref a2), (1, .int m)] [] (mk sh2 (gl X a2 15 W)) = some (some (.int (D (X.2.2 a2) m)), mk sh2 (gl (mJ X a2 (N (X.2.2 a2))) a2 15 W))) (hd : shp sh dr = some (.inl (0, [1, 0, 0, 0, 0, 0]))) (hT : RowSh sh a) (hda : dr < a ∨ a + 31 ≤ dr) (hS2 : ModSh sh2 a2) (h : RI (lc M a) (W.2.1 8) n dl bal lv t B wl al lg Ln) (hW : cW W n dl bal lv) (hx : M.2.2 dr = M2.2.2 a2) (c1 : ¬ D (M2.2.2 a2) 8 ≤ 3) (c2 : ¬ D (M2.2.2 a2) 8 ≤ 5) (c6 : D (M2.2.2 a2) 8 = 6) : YR sc sc2 d d2 sh sh2 M M2 W a a2 dr := by
  obtain ⟨⟨o1, o2, o3, o4, o5, o6, o7, o8⟩, t1, t2, t3, t4, t5, t6, t7⟩ := h.1
  have m0 : M.1 a 0 = nI n := o1
  have m3 : M.1 a 3 = nI lv := o5
  have m5 : M.1 a 5 = W.2.1 8 1550 := t4
  obtain ⟨w1, w2, w3, w4⟩ := hW
  have Ro_3 : ∀ X : aM, e_gf (mk sh X) a 5 3 = some (.int (X.1 a 3)) := fun X => by rw [gf_mk (show shp sh a = some (rowE a 0) from hT 0 (by decide))]; rfl
  have Ro_5 : ∀ X : aM, e_gf (mk sh X) a 5 5 = some (.int (X.1 a 5)) := fun X => by rw [gf_mk (show shp sh a = some (rowE a 0) from hT 0 (by decide))]; rfl
  have ne : (a = dr) = False := eq_false (by omega)
  have l8 : ((1 : Int32) ≤ 8) = True := by decide
  have l9 : ((1 : Int32) ≤ 9) = True := by decide
  have ln : ((1 : Int32) ≤ nI n) = True := eq_true (nI_le (a := 1) (by omega) (by omega))
  have lv' : ((1 : Int32) ≤ nI lv) = True := eq_true (nI_le (a := 1) (by omega) (by omega))
  have en1 : nI n - 1 = nI (n - 1) := nI_pr (by omega)
  have ln1 : ((1 : Int32) ≤ nI (n - 1)) = True := eq_true (nI_le (a := 1) (by omega) (by omega))
  have e4 : ∀ z : Int32, ((4 : Int32) ≤ z) = (¬ z ≤ 3) := fun z => by
    rw [show (4 : Int32) = nI (3 + 1) from rfl, le_succ (by decide)]
    exact propext Int32.not_le.symm
  have e6 : ∀ z : Int32, ((6 : Int32) ≤ z) = (¬ z ≤ 5) := fun z => by
    rw [show (6 : Int32) = nI (5 + 1) from rfl, le_succ (by decide)]
    exact propext Int32.not_le.symm
  have g3 : ∀ z : Int32, ((3 : Int32) < z) = (¬ z ≤ 3) := fun z => propext Int32.not_le.symm
  have g5 : ∀ z : Int32, ((5 : Int32) < z) = (¬ z ≤ 5) := fun z => propext Int32.not_le.symm
  have i3 : ((3 : Int32) < 0 ∨ 5 ≤ (3 : Int32).toNatClampNeg) = False := by decide
  have i55 : ((1550 : Int32) < 0 ∨ 1922 ≤ (1550 : Int32).toNatClampNeg) = False := by decide
  have c3 : (3 : Int32).toNatClampNeg = 3 := by decide
  have d8 := fun X : aM => dM X 8 (by decide)
  have d9 := fun X : aM => dM X 9 (by decide)
  have dn := fun X : aM => dM X (nI n) (of_eq_true ln)
  have dl' := fun X : aM => dM X (nI lv) (of_eq_true lv')
  have dn1 := fun X : aM => dM X (nI (n - 1)) (of_eq_true ln1)
  have cM2 : ∀ X : aM, e_isC (mk sh2 (gl X a2 15 W)) a2 12 = true := fun X => isC_mk (show shp sh2 a2 = some (modE a2 0) from hS2 0 (by decide))
  have c1e : (D (M2.2.2 a2) 8 ≤ 3) = False := eq_false c1
  have c2e : (D (M2.2.2 a2) 8 ≤ 5) = False := eq_false c2
  have c6e : (D (M2.2.2 a2) 8 = 6) = True := eq_true c6
  have c5 : ∀ (a b c e : Int32) (r : Nat), e_cat [.int a, .int b, .int c, .int e, .ref r] = true := fun _ _ _ _ _ => rfl
  refine ⟨(mI (mJ (mI (mJ M dr (N (M2.2.2 a2))) dr 1 4) dr (N (N (M2.2.2 a2)))) dr 2 (D (N (M2.2.2 a2)) (nI n))), 4, (N (N (M2.2.2 a2))), 0, 0, 0, by decide, ?_, ?_, ?_, ?_, rfl, ?_, ?_⟩
  · simp only [s2_0, s2_1, s2_3, s2_6, s2_7, s2_8, s2_9, s2_12, s2_13, s2_14, s2_17, s2_18, s2_19, s2_20, s2_23, s2_26, s2_29, s2_30, s2_31, s2_32, s2_35, s2_38, s2_41, s2_42, s2_43, s2_44, s2_47, s2_50, s2_53, s2_54, s2_55, s2_57, s2_60, s2_61, s2_62, s2_65, s2_68, s2_69, s2_70, s2_73, s2_74, s2_75, s2_78, s2_79, s2_80, s2_82, s2_85, s2_86, s2_87, s2_90, s2_93, s2_94, s2_96, s2_99, s2_100, s2_101, s2_104, s2_105, s2_106, s2_107, s2_110, s2_113, s2_116, s2_119, s2_120, s2_121, s2_122, s2_125, s2_126, s2_127, s2_130, s2_133, s2_134, s2_135, s2_138, s2_139, s2_142, s2_145, s2_148, s2_149, s2_152, s2_153, s2_156, nl_sti, nl_str, nl_ci, nl_cr, nl_nil, ld_cons, ld_st, lr_some, li_some, lj_some, n2_nl, n2_ci, n2_cr, n2_nil, n2_sti, n2_str, tl_some, tl_none, cat_le, List.length_cons, List.length_nil, Option.bind_some, Option.bind_none, Option.map_some, cond_true, cond_false, Bool.and_true, Bool.true_and, reduceIte, Nat.reduceEqDiff, Nat.reduceAdd, Nat.reduceLeDiff, Nat.zero_add, Nat.zero_le, Nat.zero_ne_one, Nat.one_ne_zero, Nat.reduceLT, true_or, or_true, false_or, or_false, false_and, true_and, and_false, and_true, not_false_eq_true, not_true_eq_false, eq_self, mA_A, mA_I, mI_A, mI_I, b01, b10, b01n, b10n, i10, i01, im0, ei_max, ei_min, ei_obj, n30, n20, b011, b101, orn, nor, dneg, dnle, dne, dcl, cat0, cat1, cat2, cat3, cat4, hDd, Dr_c hd, Dr_g2 hd, Dr_p1 hd, Dr_p2 hd, Dr_p3 hd, Dr_p4 hd, Dr_p5 hd, Ro_0 hT, Ro_3, Ro_5, mJ_I, mJ_J, mI_J, hx, l8, l9, c1e, c2e, c6e, g3, g5, m0, m3, m5, ne, ln, lv', en1, ln1, X_hasBit]
  · simp only [mI_I, mJ_I, Nat.reduceEqDiff, and_false, and_true, and_self, if_false, if_true, reduceIte]
    try rfl
  · simp only [mI_J, mJ_J]
  · intro x hx'
    simp only [mI_o hx', mJ_I]
  · exact Or.inr (by decide)
  · intro r h' hr
    simp only [mI_I, mJ_I, Nat.reduceEqDiff, and_false, and_true, and_self, if_false, if_true, reduceIte] at hr
    simp only [s250_0, s250_1, s250_3, s250_6, s250_7, s250_8, s250_9, s250_12, s250_13, s250_14, s250_17, s250_20, s250_21, s250_22, s250_23, s250_26, s250_29, s250_30, s250_31, s250_32, s250_35, s250_36, s250_37, s250_40, s250_42, s250_43, s250_44, s250_45, s250_46, s250_48, s250_49, s250_51, s250_54, s250_55, s250_56, s250_60, s250_61, s250_63, s250_66, s250_67, s250_68, s250_69, s250_71, s250_74, s250_75, s250_76, s250_77, s250_78, s250_79, s250_83, s250_84, s250_86, s250_89, s250_90, s250_91, s250_92, s250_93, s250_96, s250_99, s250_100, s250_101, s250_102, s250_106, s250_107, s250_108, s250_111, s250_112, s250_113, s250_116, s250_117, s250_118, s250_119, s250_122, s250_125, s250_126, s250_127, s250_130, s250_133, s250_134, s250_137, s250_138, s250_139, s250_140, s250_141, s250_142, nl_sti, nl_str, nl_ci, nl_cr, nl_nil, ld_cons, ld_st, lr_some, li_some, lj_some, n2_nl, n2_ci, n2_cr, n2_nil, n2_sti, n2_str, tl_some, tl_none, cat_le, List.length_cons, List.length_nil, Option.bind_some, Option.bind_none, Option.map_some, cond_true, cond_false, Bool.and_true, Bool.true_and, reduceIte, Nat.reduceEqDiff, Nat.reduceAdd, Nat.reduceLeDiff, Nat.zero_add, Nat.zero_le, Nat.zero_ne_one, Nat.one_ne_zero, Nat.reduceLT, true_or, or_true, false_or, or_false, false_and, true_and, and_false, and_true, not_false_eq_true, not_true_eq_false, eq_self, mA_A, mA_I, mI_A, mI_I, b01, b10, b01n, b10n, i10, i01, im0, ei_max, ei_min, ei_obj, n30, n20, b011, b101, orn, nor, dneg, dnle, dne, dcl, cat0, cat1, cat2, cat3, cat4, cl0, ng0, cl1, ng1, cl2, ng2, cl3, ng3, cl4, ng4, cl5, ng5, cl6, ng6, cl7, ng7, cl8, ng8, cl39, ng39, cl40, ng40, cl60, ng60, cl1550, ng1550, cl1551, ng1551, cl1552, ng1552, cl1553, ng1553, cl1554, ng1554, cl1555, ng1555, cl1556, ng1556, cl1557, ng1557, cl1580, ng1580, cl1741, ng1741, gM6, gM12, pM12, gM14, cM, aM3, wM3, aM8, wM8, hS2, cM2, d8, d9, dn, dl', dn1, mJ_J, mJ_mJ, w1, w4, e4, e6, c1e, c2e, c6e, i3, c3, i55, en1, M_has, lts, show nI 4 = (4 : Int32) from rfl] at hr ⊢
    simp only [hr, nl_sti, nl_str, nl_ci, nl_cr, nl_nil, ld_cons, ld_st, lr_some, li_some, lj_some, n2_nl, n2_ci, n2_cr, n2_nil, n2_sti, n2_str, tl_some, tl_none, cat_le, List.length_cons, List.length_nil, Option.bind_some, Option.bind_none, Option.map_some, cond_true, cond_false, Bool.and_true, Bool.true_and, reduceIte, Nat.reduceEqDiff, Nat.reduceAdd, Nat.reduceLeDiff, Nat.zero_add, Nat.zero_le, Nat.zero_ne_one, Nat.one_ne_zero, Nat.reduceLT, true_or, or_true, false_or, or_false, false_and, true_and, and_false, and_true, not_false_eq_true, not_true_eq_false, eq_self, mA_A, mA_I, mI_A, mI_I, b01, b10, b01n, b10n, i10, i01, im0, ei_max, ei_min, ei_obj, n30, n20, c5, s250_59, s250_82, s250_105, s250_145]
theorem Y_D {N : Int64 → Int64} {D : Int64 → Int32 → Int32} (hDd : ∀ (d : Nat) (M : aM) (m : Int32), evp sc d 3 0 [(0, .ref dr), (1, .int m)] [] (mk sh M) = some (some (.int (if 1 ≤ m then D (M.2.2 dr) m else 0)), mk sh (mJ M dr (N (M.2.2 dr))))) (dM : ∀ (X : aM) (m : Int32), 1 ≤ m → evp sc2 (d2 + 11) 249 0 [(0, .ref a2), (1, .int m)] [] (mk sh2 (gl X a2 15 W)) = some (some (.int (D (X.2.2 a2) m)), mk sh2 (gl (mJ X a2 (N (X.2.2 a2))) a2 15 W))) (hd : shp sh dr = some (.inl (0, [1, 0, 0, 0, 0, 0]))) (hT : RowSh sh a) (hda : dr < a ∨ a + 31 ≤ dr) (hS2 : ModSh sh2 a2) (h : RI (lc M a) (W.2.1 8) n dl bal lv t B wl al lg Ln) (hW : cW W n dl bal lv) (hx : M.2.2 dr = M2.2.2 a2) (c1 : ¬ D (M2.2.2 a2) 8 ≤ 3) (c2 : ¬ D (M2.2.2 a2) 8 ≤ 5) (c6 : ¬ D (M2.2.2 a2) 8 = 6) (cb : (W.2.1 8 1550 >>> (D (N (M2.2.2 a2)) (nI (n - 1)) &&& 31)) &&& 1 = 0) : YR sc sc2 d d2 sh sh2 M M2 W a a2 dr := by
  obtain ⟨⟨o1, o2, o3, o4, o5, o6, o7, o8⟩, t1, t2, t3, t4, t5, t6, t7⟩ := h.1
  have m0 : M.1 a 0 = nI n := o1
  have m3 : M.1 a 3 = nI lv := o5
  have m5 : M.1 a 5 = W.2.1 8 1550 := t4
  obtain ⟨w1, w2, w3, w4⟩ := hW
  have Ro_3 : ∀ X : aM, e_gf (mk sh X) a 5 3 = some (.int (X.1 a 3)) := fun X => by rw [gf_mk (show shp sh a = some (rowE a 0) from hT 0 (by decide))]; rfl
  have Ro_5 : ∀ X : aM, e_gf (mk sh X) a 5 5 = some (.int (X.1 a 5)) := fun X => by rw [gf_mk (show shp sh a = some (rowE a 0) from hT 0 (by decide))]; rfl
  have ne : (a = dr) = False := eq_false (by omega)
  have l8 : ((1 : Int32) ≤ 8) = True := by decide
  have l9 : ((1 : Int32) ≤ 9) = True := by decide
  have ln : ((1 : Int32) ≤ nI n) = True := eq_true (nI_le (a := 1) (by omega) (by omega))
  have lv' : ((1 : Int32) ≤ nI lv) = True := eq_true (nI_le (a := 1) (by omega) (by omega))
  have en1 : nI n - 1 = nI (n - 1) := nI_pr (by omega)
  have ln1 : ((1 : Int32) ≤ nI (n - 1)) = True := eq_true (nI_le (a := 1) (by omega) (by omega))
  have e4 : ∀ z : Int32, ((4 : Int32) ≤ z) = (¬ z ≤ 3) := fun z => by
    rw [show (4 : Int32) = nI (3 + 1) from rfl, le_succ (by decide)]
    exact propext Int32.not_le.symm
  have e6 : ∀ z : Int32, ((6 : Int32) ≤ z) = (¬ z ≤ 5) := fun z => by
    rw [show (6 : Int32) = nI (5 + 1) from rfl, le_succ (by decide)]
    exact propext Int32.not_le.symm
  have g3 : ∀ z : Int32, ((3 : Int32) < z) = (¬ z ≤ 3) := fun z => propext Int32.not_le.symm
  have g5 : ∀ z : Int32, ((5 : Int32) < z) = (¬ z ≤ 5) := fun z => propext Int32.not_le.symm
  have i3 : ((3 : Int32) < 0 ∨ 5 ≤ (3 : Int32).toNatClampNeg) = False := by decide
  have i55 : ((1550 : Int32) < 0 ∨ 1922 ≤ (1550 : Int32).toNatClampNeg) = False := by decide
  have c3 : (3 : Int32).toNatClampNeg = 3 := by decide
  have d8 := fun X : aM => dM X 8 (by decide)
  have d9 := fun X : aM => dM X 9 (by decide)
  have dn := fun X : aM => dM X (nI n) (of_eq_true ln)
  have dl' := fun X : aM => dM X (nI lv) (of_eq_true lv')
  have dn1 := fun X : aM => dM X (nI (n - 1)) (of_eq_true ln1)
  have cM2 : ∀ X : aM, e_isC (mk sh2 (gl X a2 15 W)) a2 12 = true := fun X => isC_mk (show shp sh2 a2 = some (modE a2 0) from hS2 0 (by decide))
  have c1e : (D (M2.2.2 a2) 8 ≤ 3) = False := eq_false c1
  have c2e : (D (M2.2.2 a2) 8 ≤ 5) = False := eq_false c2
  have c6e : (D (M2.2.2 a2) 8 = 6) = False := eq_false c6
  have cbe : ((W.2.1 8 1550 >>> (D (N (M2.2.2 a2)) (nI (n - 1)) &&& 31)) &&& 1 = 0) = True := eq_true cb
  have c5 : ∀ (a b c e : Int32) (r : Nat), e_cat [.int a, .int b, .int c, .int e, .ref r] = true := fun _ _ _ _ _ => rfl
  refine ⟨(mI (mI (mJ (mJ M dr (N (M2.2.2 a2))) dr (N (N (M2.2.2 a2)))) dr 2 (D (N (M2.2.2 a2)) (nI (n - 1)))) dr 1 2), 2, (N (N (M2.2.2 a2))), 0, 0, 0, by decide, ?_, ?_, ?_, ?_, rfl, ?_, ?_⟩
  · simp only [s2_0, s2_1, s2_3, s2_6, s2_7, s2_8, s2_9, s2_12, s2_13, s2_14, s2_17, s2_18, s2_19, s2_20, s2_23, s2_26, s2_29, s2_30, s2_31, s2_32, s2_35, s2_38, s2_41, s2_42, s2_43, s2_44, s2_47, s2_50, s2_53, s2_54, s2_55, s2_57, s2_60, s2_61, s2_62, s2_65, s2_68, s2_69, s2_70, s2_73, s2_74, s2_75, s2_78, s2_79, s2_80, s2_82, s2_85, s2_86, s2_87, s2_90, s2_93, s2_94, s2_96, s2_99, s2_100, s2_101, s2_104, s2_105, s2_106, s2_107, s2_110, s2_113, s2_116, s2_119, s2_120, s2_121, s2_122, s2_125, s2_126, s2_127, s2_130, s2_133, s2_134, s2_135, s2_138, s2_139, s2_142, s2_145, s2_148, s2_149, s2_152, s2_153, s2_156, nl_sti, nl_str, nl_ci, nl_cr, nl_nil, ld_cons, ld_st, lr_some, li_some, lj_some, n2_nl, n2_ci, n2_cr, n2_nil, n2_sti, n2_str, tl_some, tl_none, cat_le, List.length_cons, List.length_nil, Option.bind_some, Option.bind_none, Option.map_some, cond_true, cond_false, Bool.and_true, Bool.true_and, reduceIte, Nat.reduceEqDiff, Nat.reduceAdd, Nat.reduceLeDiff, Nat.zero_add, Nat.zero_le, Nat.zero_ne_one, Nat.one_ne_zero, Nat.reduceLT, true_or, or_true, false_or, or_false, false_and, true_and, and_false, and_true, not_false_eq_true, not_true_eq_false, eq_self, mA_A, mA_I, mI_A, mI_I, b01, b10, b01n, b10n, i10, i01, im0, ei_max, ei_min, ei_obj, n30, n20, b011, b101, orn, nor, dneg, dnle, dne, dcl, cat0, cat1, cat2, cat3, cat4, hDd, Dr_c hd, Dr_g2 hd, Dr_p1 hd, Dr_p2 hd, Dr_p3 hd, Dr_p4 hd, Dr_p5 hd, Ro_0 hT, Ro_3, Ro_5, mJ_I, mJ_J, mI_J, hx, l8, l9, c1e, c2e, c6e, cbe, g3, g5, m0, m3, m5, ne, ln, lv', en1, ln1, X_hasBit]
  · simp only [mI_I, mJ_I, Nat.reduceEqDiff, and_false, and_true, and_self, if_false, if_true, reduceIte]
    try rfl
  · simp only [mI_J, mJ_J]
  · intro x hx'
    simp only [mI_o hx', mJ_I]
  · exact Or.inr (by decide)
  · intro r h' hr
    simp only [mI_I, mJ_I, Nat.reduceEqDiff, and_false, and_true, and_self, if_false, if_true, reduceIte] at hr
    simp only [s250_0, s250_1, s250_3, s250_6, s250_7, s250_8, s250_9, s250_12, s250_13, s250_14, s250_17, s250_20, s250_21, s250_22, s250_23, s250_26, s250_29, s250_30, s250_31, s250_32, s250_35, s250_36, s250_37, s250_40, s250_42, s250_43, s250_44, s250_45, s250_46, s250_48, s250_49, s250_51, s250_54, s250_55, s250_56, s250_60, s250_61, s250_63, s250_66, s250_67, s250_68, s250_69, s250_71, s250_74, s250_75, s250_76, s250_77, s250_78, s250_79, s250_83, s250_84, s250_86, s250_89, s250_90, s250_91, s250_92, s250_93, s250_96, s250_99, s250_100, s250_101, s250_102, s250_106, s250_107, s250_108, s250_111, s250_112, s250_113, s250_116, s250_117, s250_118, s250_119, s250_122, s250_125, s250_126, s250_127, s250_130, s250_133, s250_134, s250_137, s250_138, s250_139, s250_140, s250_141, s250_142, nl_sti, nl_str, nl_ci, nl_cr, nl_nil, ld_cons, ld_st, lr_some, li_some, lj_some, n2_nl, n2_ci, n2_cr, n2_nil, n2_sti, n2_str, tl_some, tl_none, cat_le, List.length_cons, List.length_nil, Option.bind_some, Option.bind_none, Option.map_some, cond_true, cond_false, Bool.and_true, Bool.true_and, reduceIte, Nat.reduceEqDiff, Nat.reduceAdd, Nat.reduceLeDiff, Nat.zero_add, Nat.zero_le, Nat.zero_ne_one, Nat.one_ne_zero, Nat.reduceLT, true_or, or_true, false_or, or_false, false_and, true_and, and_false, and_true, not_false_eq_true, not_true_eq_false, eq_self, mA_A, mA_I, mI_A, mI_I, b01, b10, b01n, b10n, i10, i01, im0, ei_max, ei_min, ei_obj, n30, n20, b011, b101, orn, nor, dneg, dnle, dne, dcl, cat0, cat1, cat2, cat3, cat4, cl0, ng0, cl1, ng1, cl2, ng2, cl3, ng3, cl4, ng4, cl5, ng5, cl6, ng6, cl7, ng7, cl8, ng8, cl39, ng39, cl40, ng40, cl60, ng60, cl1550, ng1550, cl1551, ng1551, cl1552, ng1552, cl1553, ng1553, cl1554, ng1554, cl1555, ng1555, cl1556, ng1556, cl1557, ng1557, cl1580, ng1580, cl1741, ng1741, gM6, gM12, pM12, gM14, cM, aM3, wM3, aM8, wM8, hS2, cM2, d8, d9, dn, dl', dn1, mJ_J, mJ_mJ, w1, w4, e4, e6, c1e, c2e, c6e, cbe, i3, c3, i55, en1, M_has, lts, show nI 2 = (2 : Int32) from rfl] at hr ⊢
    simp only [hr, nl_sti, nl_str, nl_ci, nl_cr, nl_nil, ld_cons, ld_st, lr_some, li_some, lj_some, n2_nl, n2_ci, n2_cr, n2_nil, n2_sti, n2_str, tl_some, tl_none, cat_le, List.length_cons, List.length_nil, Option.bind_some, Option.bind_none, Option.map_some, cond_true, cond_false, Bool.and_true, Bool.true_and, reduceIte, Nat.reduceEqDiff, Nat.reduceAdd, Nat.reduceLeDiff, Nat.zero_add, Nat.zero_le, Nat.zero_ne_one, Nat.one_ne_zero, Nat.reduceLT, true_or, or_true, false_or, or_false, false_and, true_and, and_false, and_true, not_false_eq_true, not_true_eq_false, eq_self, mA_A, mA_I, mI_A, mI_I, b01, b10, b01n, b10n, i10, i01, im0, ei_max, ei_min, ei_obj, n30, n20, c5, s250_59, s250_82, s250_105, s250_145]
theorem Y_E {N : Int64 → Int64} {D : Int64 → Int32 → Int32} (hDd : ∀ (d : Nat) (M : aM) (m : Int32), evp sc d 3 0 [(0, .ref dr), (1, .int m)] [] (mk sh M) = some (some (.int (if 1 ≤ m then D (M.2.2 dr) m else 0)), mk sh (mJ M dr (N (M.2.2 dr))))) (dM : ∀ (X : aM) (m : Int32), 1 ≤ m → evp sc2 (d2 + 11) 249 0 [(0, .ref a2), (1, .int m)] [] (mk sh2 (gl X a2 15 W)) = some (some (.int (D (X.2.2 a2) m)), mk sh2 (gl (mJ X a2 (N (X.2.2 a2))) a2 15 W))) (hd : shp sh dr = some (.inl (0, [1, 0, 0, 0, 0, 0]))) (hT : RowSh sh a) (hda : dr < a ∨ a + 31 ≤ dr) (hS2 : ModSh sh2 a2) (h : RI (lc M a) (W.2.1 8) n dl bal lv t B wl al lg Ln) (hW : cW W n dl bal lv) (hx : M.2.2 dr = M2.2.2 a2) (c1 : ¬ D (M2.2.2 a2) 8 ≤ 3) (c2 : ¬ D (M2.2.2 a2) 8 ≤ 5) (c6 : ¬ D (M2.2.2 a2) 8 = 6) (cb : ¬ (W.2.1 8 1550 >>> (D (N (M2.2.2 a2)) (nI (n - 1)) &&& 31)) &&& 1 = 0) : YR sc sc2 d d2 sh sh2 M M2 W a a2 dr := by
  obtain ⟨⟨o1, o2, o3, o4, o5, o6, o7, o8⟩, t1, t2, t3, t4, t5, t6, t7⟩ := h.1
  have m0 : M.1 a 0 = nI n := o1
  have m3 : M.1 a 3 = nI lv := o5
  have m5 : M.1 a 5 = W.2.1 8 1550 := t4
  obtain ⟨w1, w2, w3, w4⟩ := hW
  have Ro_3 : ∀ X : aM, e_gf (mk sh X) a 5 3 = some (.int (X.1 a 3)) := fun X => by rw [gf_mk (show shp sh a = some (rowE a 0) from hT 0 (by decide))]; rfl
  have Ro_5 : ∀ X : aM, e_gf (mk sh X) a 5 5 = some (.int (X.1 a 5)) := fun X => by rw [gf_mk (show shp sh a = some (rowE a 0) from hT 0 (by decide))]; rfl
  have ne : (a = dr) = False := eq_false (by omega)
  have l8 : ((1 : Int32) ≤ 8) = True := by decide
  have l9 : ((1 : Int32) ≤ 9) = True := by decide
  have ln : ((1 : Int32) ≤ nI n) = True := eq_true (nI_le (a := 1) (by omega) (by omega))
  have lv' : ((1 : Int32) ≤ nI lv) = True := eq_true (nI_le (a := 1) (by omega) (by omega))
  have en1 : nI n - 1 = nI (n - 1) := nI_pr (by omega)
  have ln1 : ((1 : Int32) ≤ nI (n - 1)) = True := eq_true (nI_le (a := 1) (by omega) (by omega))
  have e4 : ∀ z : Int32, ((4 : Int32) ≤ z) = (¬ z ≤ 3) := fun z => by
    rw [show (4 : Int32) = nI (3 + 1) from rfl, le_succ (by decide)]
    exact propext Int32.not_le.symm
  have e6 : ∀ z : Int32, ((6 : Int32) ≤ z) = (¬ z ≤ 5) := fun z => by
    rw [show (6 : Int32) = nI (5 + 1) from rfl, le_succ (by decide)]
    exact propext Int32.not_le.symm
  have g3 : ∀ z : Int32, ((3 : Int32) < z) = (¬ z ≤ 3) := fun z => propext Int32.not_le.symm
  have g5 : ∀ z : Int32, ((5 : Int32) < z) = (¬ z ≤ 5) := fun z => propext Int32.not_le.symm
  have i3 : ((3 : Int32) < 0 ∨ 5 ≤ (3 : Int32).toNatClampNeg) = False := by decide
  have i55 : ((1550 : Int32) < 0 ∨ 1922 ≤ (1550 : Int32).toNatClampNeg) = False := by decide
  have c3 : (3 : Int32).toNatClampNeg = 3 := by decide
  have d8 := fun X : aM => dM X 8 (by decide)
  have d9 := fun X : aM => dM X 9 (by decide)
  have dn := fun X : aM => dM X (nI n) (of_eq_true ln)
  have dl' := fun X : aM => dM X (nI lv) (of_eq_true lv')
  have dn1 := fun X : aM => dM X (nI (n - 1)) (of_eq_true ln1)
  have cM2 : ∀ X : aM, e_isC (mk sh2 (gl X a2 15 W)) a2 12 = true := fun X => isC_mk (show shp sh2 a2 = some (modE a2 0) from hS2 0 (by decide))
  have c1e : (D (M2.2.2 a2) 8 ≤ 3) = False := eq_false c1
  have c2e : (D (M2.2.2 a2) 8 ≤ 5) = False := eq_false c2
  have c6e : (D (M2.2.2 a2) 8 = 6) = False := eq_false c6
  have cbe : ((W.2.1 8 1550 >>> (D (N (M2.2.2 a2)) (nI (n - 1)) &&& 31)) &&& 1 = 0) = False := eq_false cb
  have c5 : ∀ (a b c e : Int32) (r : Nat), e_cat [.int a, .int b, .int c, .int e, .ref r] = true := fun _ _ _ _ _ => rfl
  refine ⟨(mI (mI (mJ (mJ M dr (N (M2.2.2 a2))) dr (N (N (M2.2.2 a2)))) dr 2 (D (N (M2.2.2 a2)) (nI (n - 1)))) dr 1 3), 3, (N (N (M2.2.2 a2))), 0, 0, 0, by decide, ?_, ?_, ?_, ?_, rfl, ?_, ?_⟩
  · simp only [s2_0, s2_1, s2_3, s2_6, s2_7, s2_8, s2_9, s2_12, s2_13, s2_14, s2_17, s2_18, s2_19, s2_20, s2_23, s2_26, s2_29, s2_30, s2_31, s2_32, s2_35, s2_38, s2_41, s2_42, s2_43, s2_44, s2_47, s2_50, s2_53, s2_54, s2_55, s2_57, s2_60, s2_61, s2_62, s2_65, s2_68, s2_69, s2_70, s2_73, s2_74, s2_75, s2_78, s2_79, s2_80, s2_82, s2_85, s2_86, s2_87, s2_90, s2_93, s2_94, s2_96, s2_99, s2_100, s2_101, s2_104, s2_105, s2_106, s2_107, s2_110, s2_113, s2_116, s2_119, s2_120, s2_121, s2_122, s2_125, s2_126, s2_127, s2_130, s2_133, s2_134, s2_135, s2_138, s2_139, s2_142, s2_145, s2_148, s2_149, s2_152, s2_153, s2_156, nl_sti, nl_str, nl_ci, nl_cr, nl_nil, ld_cons, ld_st, lr_some, li_some, lj_some, n2_nl, n2_ci, n2_cr, n2_nil, n2_sti, n2_str, tl_some, tl_none, cat_le, List.length_cons, List.length_nil, Option.bind_some, Option.bind_none, Option.map_some, cond_true, cond_false, Bool.and_true, Bool.true_and, reduceIte, Nat.reduceEqDiff, Nat.reduceAdd, Nat.reduceLeDiff, Nat.zero_add, Nat.zero_le, Nat.zero_ne_one, Nat.one_ne_zero, Nat.reduceLT, true_or, or_true, false_or, or_false, false_and, true_and, and_false, and_true, not_false_eq_true, not_true_eq_false, eq_self, mA_A, mA_I, mI_A, mI_I, b01, b10, b01n, b10n, i10, i01, im0, ei_max, ei_min, ei_obj, n30, n20, b011, b101, orn, nor, dneg, dnle, dne, dcl, cat0, cat1, cat2, cat3, cat4, hDd, Dr_c hd, Dr_g2 hd, Dr_p1 hd, Dr_p2 hd, Dr_p3 hd, Dr_p4 hd, Dr_p5 hd, Ro_0 hT, Ro_3, Ro_5, mJ_I, mJ_J, mI_J, hx, l8, l9, c1e, c2e, c6e, cbe, g3, g5, m0, m3, m5, ne, ln, lv', en1, ln1, X_hasBit]
  · simp only [mI_I, mJ_I, Nat.reduceEqDiff, and_false, and_true, and_self, if_false, if_true, reduceIte]
    try rfl
  · simp only [mI_J, mJ_J]
  · intro x hx'
    simp only [mI_o hx', mJ_I]
  · exact Or.inr (by decide)
  · intro r h' hr
    simp only [mI_I, mJ_I, Nat.reduceEqDiff, and_false, and_true, and_self, if_false, if_true, reduceIte] at hr
    simp only [s250_0, s250_1, s250_3, s250_6, s250_7, s250_8, s250_9, s250_12, s250_13, s250_14, s250_17, s250_20, s250_21, s250_22, s250_23, s250_26, s250_29, s250_30, s250_31, s250_32, s250_35, s250_36, s250_37, s250_40, s250_42, s250_43, s250_44, s250_45, s250_46, s250_48, s250_49, s250_51, s250_54, s250_55, s250_56, s250_60, s250_61, s250_63, s250_66, s250_67, s250_68, s250_69, s250_71, s250_74, s250_75, s250_76, s250_77, s250_78, s250_79, s250_83, s250_84, s250_86, s250_89, s250_90, s250_91, s250_92, s250_93, s250_96, s250_99, s250_100, s250_101, s250_102, s250_106, s250_107, s250_108, s250_111, s250_112, s250_113, s250_116, s250_117, s250_118, s250_119, s250_122, s250_125, s250_126, s250_127, s250_130, s250_133, s250_134, s250_137, s250_138, s250_139, s250_140, s250_141, s250_142, nl_sti, nl_str, nl_ci, nl_cr, nl_nil, ld_cons, ld_st, lr_some, li_some, lj_some, n2_nl, n2_ci, n2_cr, n2_nil, n2_sti, n2_str, tl_some, tl_none, cat_le, List.length_cons, List.length_nil, Option.bind_some, Option.bind_none, Option.map_some, cond_true, cond_false, Bool.and_true, Bool.true_and, reduceIte, Nat.reduceEqDiff, Nat.reduceAdd, Nat.reduceLeDiff, Nat.zero_add, Nat.zero_le, Nat.zero_ne_one, Nat.one_ne_zero, Nat.reduceLT, true_or, or_true, false_or, or_false, false_and, true_and, and_false, and_true, not_false_eq_true, not_true_eq_false, eq_self, mA_A, mA_I, mI_A, mI_I, b01, b10, b01n, b10n, i10, i01, im0, ei_max, ei_min, ei_obj, n30, n20, b011, b101, orn, nor, dneg, dnle, dne, dcl, cat0, cat1, cat2, cat3, cat4, cl0, ng0, cl1, ng1, cl2, ng2, cl3, ng3, cl4, ng4, cl5, ng5, cl6, ng6, cl7, ng7, cl8, ng8, cl39, ng39, cl40, ng40, cl60, ng60, cl1550, ng1550, cl1551, ng1551, cl1552, ng1552, cl1553, ng1553, cl1554, ng1554, cl1555, ng1555, cl1556, ng1556, cl1557, ng1557, cl1580, ng1580, cl1741, ng1741, gM6, gM12, pM12, gM14, cM, aM3, wM3, aM8, wM8, hS2, cM2, d8, d9, dn, dl', dn1, mJ_J, mJ_mJ, w1, w4, e4, e6, c1e, c2e, c6e, cbe, i3, c3, i55, en1, M_has, lts, show nI 3 = (3 : Int32) from rfl] at hr ⊢
    simp only [hr, nl_sti, nl_str, nl_ci, nl_cr, nl_nil, ld_cons, ld_st, lr_some, li_some, lj_some, n2_nl, n2_ci, n2_cr, n2_nil, n2_sti, n2_str, tl_some, tl_none, cat_le, List.length_cons, List.length_nil, Option.bind_some, Option.bind_none, Option.map_some, cond_true, cond_false, Bool.and_true, Bool.true_and, reduceIte, Nat.reduceEqDiff, Nat.reduceAdd, Nat.reduceLeDiff, Nat.zero_add, Nat.zero_le, Nat.zero_ne_one, Nat.one_ne_zero, Nat.reduceLT, true_or, or_true, false_or, or_false, false_and, true_and, and_false, and_true, not_false_eq_true, not_true_eq_false, eq_self, mA_A, mA_I, mI_A, mI_I, b01, b10, b01n, b10n, i10, i01, im0, ei_max, ei_min, ei_obj, n30, n20, c5, s250_59, s250_82, s250_105, s250_145]
theorem Y_choose (hd : shp sh dr = some (.inl (0, [1, 0, 0, 0, 0, 0]))) (hT : RowSh sh a) (hda : dr < a ∨ a + 31 ≤ dr) (hS2 : ModSh sh2 a2) (h : RI (lc M a) (W.2.1 8) n dl bal lv t B wl al lg Ln) (hW : cW W n dl bal lv) (hx : M.2.2 dr = M2.2.2 a2) : YR sc sc2 d d2 sh sh2 M M2 W a a2 dr := by
  by_cases c1 : dw (M2.2.2 a2) 8 ≤ 3
  · exact Y_A (fun d M m => D_draw hd) (fun X m hm => M_draw hS2 hm) hd hT hda hS2 h hW hx c1
  · by_cases c2 : dw (M2.2.2 a2) 8 ≤ 5
    · exact Y_B (fun d M m => D_draw hd) (fun X m hm => M_draw hS2 hm) hd hT hda hS2 h hW hx c1 c2
    · by_cases c6 : dw (M2.2.2 a2) 8 = 6
      · exact Y_C (fun d M m => D_draw hd) (fun X m hm => M_draw hS2 hm) hd hT hda hS2 h hW hx c1 c2 c6
      · by_cases cb : (W.2.1 8 1550 >>> (dw (nx (M2.2.2 a2)) (nI (n - 1)) &&& 31)) &&& 1 = 0
        · exact Y_D (fun d M m => D_draw hd) (fun X m hm => M_draw hS2 hm) hd hT hda hS2 h hW hx c1 c2 c6 cb
        · exact Y_E (fun d M m => D_draw hd) (fun X m hm => M_draw hS2 hm) hd hT hda hS2 h hW hx c1 c2 c6 cb
end
