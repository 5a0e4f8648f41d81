/-! LOOKING AHEAD on a copy: class and reference; ahead, share -/
theorem mGo_add {n dl lv : Nat} : ∀ (i j : Nat) (P : aP), mGo n dl lv (i + j) P = mGo n dl lv j (mGo n dl lv i P)
  | 0, j, P => by rw [Nat.zero_add]; rfl
  | i + 1, j, P => by
    rw [show i + 1 + j = (i + j) + 1 by omega]
    exact mGo_add i j (mTick P n dl lv)
theorem rGo_add {n lv : Nat} : ∀ (i j : Nat) (R : aM), rGo n lv (i + j) R = rGo n lv j (rGo n lv i R)
  | 0, j, R => by rw [Nat.zero_add]; rfl
  | i + 1, j, R => by
    rw [show i + 1 + j = (i + j) + 1 by omega]
    exact rGo_add i j (rTick R n lv)
def Qt (R : aM) : Prop := R.1 5 12 = 0 ∧ R.1 19 4 = 0
theorem TI_qt {R : aM} {P : aP} {n dl bal lv t B : Nat} {wl : Nat → List Sg} {al : List (Nat → Int32)} {lg : LgT} {LL : List (Int32 × Int32)} {Ln : Nat → List (Option Se)} (h : TI R P n dl bal lv t B wl al lg LL Ln) (q : Qt R) (hU : uS Ln < 2 ^ 31) : LV tt wl Ln none = 0 := by
  obtain ⟨hC, hL, hl, hu, -⟩ := h
  have h5 := hC.2.2.2.2.2.1.2.2.1
  have ht : tot wl ≤ 240 := by
    obtain ⟨⟨cs, fr, own, hq⟩, -⟩ := hC.2.2.2.2.2.1
    have := hq.2.2.2
    omega
  rw [q.1] at h5
  rw [q.2] at hu
  have e1 : tot wl = 0 := ((nI_eq (by decide) (by omega)).mp (show nI 0 = nI (tot wl) from h5)).symm
  have e2 : uS Ln = 0 := ((nI_eq (by decide) hU).mp (show nI 0 = nI (uS Ln) from hu)).symm
  unfold LV
  rw [CW_tt, CN_tt, e1, e2]
  rfl
theorem uS_le {Ln : Nat → List (Option Se)} (h : ∀ q, q < 14 → (Ln q).length ≤ 3) : uS Ln < 2 ^ 31 := by
  have e : ∀ L : List (Option Se), uL L ≤ L.length := by
    intro L
    unfold uL
    induction L with
    | nil => exact Nat.le_refl _
    | cons x r ih =>
      rw [List.map_cons, List.sum_cons, List.length_cons]
      have : uO x ≤ 1 := by
        cases x with
        | none => exact Nat.zero_le _
        | some e =>
          show ur e ≤ 1
          unfold ur
          split <;> omega
      omega
  unfold uS
  have a0 := Nat.le_trans (e (Ln 0)) (h 0 (by decide))
  have a1 := Nat.le_trans (e (Ln 1)) (h 1 (by decide))
  have a2 := Nat.le_trans (e (Ln 2)) (h 2 (by decide))
  have a3 := Nat.le_trans (e (Ln 3)) (h 3 (by decide))
  have a4 := Nat.le_trans (e (Ln 4)) (h 4 (by decide))
  have a5 := Nat.le_trans (e (Ln 5)) (h 5 (by decide))
  have a6 := Nat.le_trans (e (Ln 6)) (h 6 (by decide))
  have a7 := Nat.le_trans (e (Ln 7)) (h 7 (by decide))
  have a8 := Nat.le_trans (e (Ln 8)) (h 8 (by decide))
  have a9 := Nat.le_trans (e (Ln 9)) (h 9 (by decide))
  have b0 := Nat.le_trans (e (Ln 10)) (h 10 (by decide))
  have b1 := Nat.le_trans (e (Ln 11)) (h 11 (by decide))
  have b2 := Nat.le_trans (e (Ln 12)) (h 12 (by decide))
  have b3 := Nat.le_trans (e (Ln 13)) (h 13 (by decide))
  omega
theorem TI_us {R : aM} {P : aP} {n dl bal lv t B : Nat} {wl : Nat → List Sg} {al : List (Nat → Int32)} {lg : LgT} {LL : List (Int32 × Int32)} {Ln : Nat → List (Option Se)} (h : TI R P n dl bal lv t B wl al lg LL Ln) : uS Ln < 2 ^ 31 := uS_le (fun q hq => Nat.le_trans (h.2.2.1 q hq) h.1.1.1.2.2.2.1)
/-- however the class stops early: it tells what the reference tells behind all ticks -/
theorem Look {R : aM} {P : aP} {n dl bal lv t B N i : Nat} {wl : Nat → List Sg} {al : List (Nat → Int32)} {lg : LgT} {Ln : Nat → List (Option Se)} (h : TI R P n dl bal lv t B wl al lg [] Ln) (hN : t + N ≤ 10000) (hN2 : N ≤ 200) (hB : B + 80000 < 2 ^ 31) (hi : i ≤ N) (hq : i = N ∨ Qt (rGo n lv i R)) :
    GoOk n dl lv N P ∧ (rGo n lv i R).1 19 1 - R.1 19 1 = (mGo n dl lv N P).1.1 0 31 ∧ (∃ R2 wl2, cQ R2 (mGo n dl lv N P).2 n lv wl2 ∧ (rGo n lv i R).1 5 12 = nI (tot wl2)) ∧ (rGo n lv i R).1 19 2 = (mGo n dl lv N P).2 1555 ∧ (∀ s, s < 8 → (rGo n lv i R).2.1 21 s = (mGo n dl lv N P).2 (1168 + s)) ∧ TdC (rGo n lv i R) := by
  obtain ⟨-, ok, -⟩ := S_go N R P t B wl al [] Ln h hN (by omega) (by show 0 + _ ≤ _; omega)
  obtain ⟨-, -, nws, wl1, Ln1, j1, j2, j3, j4, j5, j6⟩ := S_go i R P t B wl al [] Ln h (by omega) (by omega) (by show 0 + _ ≤ _; omega)
  have e0 : (rGo n lv i R).1 19 1 - R.1 19 1 = nI nws.flatten.length := by rw [j4, Int32.add_comm, Int32.add_sub_cancel]
  have hl1 : (mGo n dl lv i P).1.1 0 31 = nI nws.flatten.length := by
    rw [j3.1.2.2.2.2.2.2.2.2.2.1, List.nil_append, lnd_len]
  have q5 := j3.1.2.2.2.2.2.1
  have q3 := j3.1.2.2.1
  have q4 := j3.1.2.2.2.1
  refine ⟨ok, ?_⟩
  rcases hq with rfl | hq
  · exact ⟨e0.trans hl1.symm, ⟨_, wl1, q5, q5.2.2.1⟩, q3.2.2.1, fun s hs => (q4.1 s hs).2.1, (TI_RI.mp j3).1.td⟩
  · have hL0 := TI_qt j3 hq (TI_us j3)
    have hlen : ([] ++ lnd (P.1.1 0 32) nws).length ≤ 16 * i := by
      rw [List.nil_append, lnd_len, ← j1]
      clear j3 hl1 e0 j4 j5 j6 hL0 q5 q3 q4 j1
      induction nws with
      | nil => exact Nat.zero_le _
      | cons x r ih =>
        rw [List.flatten_cons, List.length_append, List.length_cons]
        have h1 := j2 x (List.mem_cons_self ..)
        have h2 := ih (fun nw hn => j2 nw (List.mem_cons_of_mem _ hn))
        omega
    obtain ⟨-, -, nws2, wl2, Ln2, k1, k2, k3, k4, k5, k6⟩ := S_go (N - i) _ _ (t + i) (B + 400 * i) wl1 _ _ Ln1 j3 (by omega) (by omega) (by omega)
    have eN : mGo n dl lv N P = mGo n dl lv (N - i) (mGo n dl lv i P) := by rw [← mGo_add, show i + (N - i) = N by omega]
    have f0 : nws2.flatten.length = 0 ∧ tot wl2 = 0 := by
      have := k5 tt
      rw [hL0, ca_tt] at this
      unfold LV at this
      rw [CW_tt] at this
      omega
    have st := k6 hL0
    have hl2 : (mGo n dl lv N P).1.1 0 31 = nI nws.flatten.length := by
      rw [eN, k3.1.2.2.2.2.2.2.2.2.2.1, List.length_append, lnd_len, List.nil_append, lnd_len, f0.1, Nat.add_zero]
    refine ⟨e0.trans hl2.symm, ⟨_, wl2, eN ▸ k3.1.2.2.2.2.2.1, ?_⟩, ?_, fun s hs => ?_, (TI_RI.mp j3).1.td⟩
    · rw [hq.1, f0.2]; rfl
    · rw [eN, st 1555 (Or.inr rfl)]
      exact q3.2.2.1
    · rw [eN, st (1168 + s) (Or.inl ⟨by omega, by omega⟩)]
      exact (q4.1 s hs).2.1
section
variable {sc sc2 : aS} {d d2 : Nat} {sh sh2 : List sE} {M M2 W R : aM} {a a2 s tp sr p o dr rf kk ap x1 x2 x3 b : Nat} {n dl bal lv t B : Nat} {wl : Nat → List Sg} {al l : List (Nat → Int32)} {lg : LgT} {Ln : Nat → List (Option Se)} {x y v m w : Int32}
theorem Ou_g0 (ho : shp sh o = some (.inl (3, [ap + 3, x1 + 3, x2 + 3, x3 + 3]))) : e_gf (mk sh M) o 3 0 = some (.ref ap) := by rw [gf_mk ho]; rfl
theorem Ou_c (ho : shp sh o = some (.inl (3, [ap + 3, x1 + 3, x2 + 3, x3 + 3]))) : e_isC (mk sh M) o 3 = true := isC_mk ho
theorem R_pass1 (hS : RowSh sh a) (hn : n ≤ 8) (ok : CTickOk R n dl lv) : evp sc (d + 5) 78 0 [(0, .ref a), (1, .int 1)] [] (mk sh (gl M a 31 R)) = some (some (.int ((rTick R n lv).1 19 1 - R.1 19 1)), mk sh (gl M a 31 (rTick R n lv))) := R_pass (t := 1) hS hn (by decide) ⟨ok, trivial⟩
set_option maxRecDepth 100000 in
theorem O_loop (hS : RowSh sh ap) (ho : shp sh o = some (.inl (3, [ap + 3, x1 + 3, x2 + 3, x3 + 3]))) {N : Nat} (hN : N < 2 ^ 31) : ∀ (k j : Nat) (R : aM) (P : aP) (t B : Nat) (wl : Nat → List Sg) (al : List (Nat → Int32)) (LL : List (Int32 × Int32)) (Ln : Nat → List (Option Se)) (L : aL), j + k = N → TI R P n dl bal lv t B wl al lg LL Ln → t + k ≤ 10000 → B + 400 * k < 2 ^ 31 → LL.length + 16 * k ≤ 3300 → e_n2 L → e_ld L 0 = some (.ref o) → e_ld L 1 = some (.int (nI N)) → e_ld L 2 = some (.int (nI j)) → ∃ i, i ≤ k ∧ (i = k ∨ Qt (rGo n lv i R)) ∧ evp sc (d + 6) 38 2 L [] (mk sh (gl M ap 31 R)) = some (none, mk sh (gl M ap 31 (rGo n lv i R)))
  | 0, j, R, P, t, B, wl, al, LL, Ln, L, hj, h, ht, hB, hLL, hL, h0, h1, h2 => by
    have c1 : (nI N ≤ nI j) = True := eq_true (nI_le (by omega) (by omega))
    refine ⟨0, Nat.le_refl _, Or.inl rfl, ?_⟩
    rw [s38_2]
    simp only [s38_0, s38_1, s38_3, s38_4, s38_7, s38_8, s38_11, s38_14, s38_17, s38_18, s38_21, s38_22, s38_25, s38_25r, s38_26, s38_29, s38_32, nl_sti, nl_str, nl_ci, nl_cr, nl_nil, ld_cons, ld_st, lr_some, li_some, lj_some, n2_nl, n2_ci, n2_cr, n2_nil, n2_sti, n2_str, tl_some, tl_none, cat_le, List.length_cons, List.length_nil, Option.bind_some, Option.bind_none, Option.map_some, cond_true, cond_false, Bool.and_true, Bool.true_and, reduceIte, Nat.reduceEqDiff, Nat.reduceAdd, Nat.reduceLeDiff, Nat.zero_add, Nat.zero_le, Nat.zero_ne_one, Nat.one_ne_zero, Nat.reduceLT, true_or, or_true, false_or, or_false, false_and, true_and, and_false, and_true, not_false_eq_true, not_true_eq_false, eq_self, mA_A, mA_I, mI_A, mI_I, b01, b10, b01n, b10n, i10, i01, im0, ei_max, ei_min, ei_obj, n30, n20, b011, b101, orn, nor, dneg, dnle, dne, dcl, cat0, cat1, cat2, cat3, cat4, hL, h0, h1, h2, c1]
    rfl
  | k + 1, j, R, P, t, B, wl, al, LL, Ln, L, hj, h, ht, hB, hLL, hL, h0, h1, h2 => by
    have c1 : (nI N ≤ nI j) = False := eq_false (nI_ge (by omega) (by omega))
    have hn8 : n ≤ 8 := h.1.1.1.2.1
    by_cases q : Qt R
    · refine ⟨0, Nat.zero_le _, Or.inr q, ?_⟩
      have c2 : ¬ (¬ R.1 5 12 = 0 ∨ ¬ R.1 19 4 = 0) := fun z => z.elim (fun z => z q.1) (fun z => z q.2)
      have tq := R_isQuiet (sc := sc) (d := d + 5) (M := M) (R := R) hS
      rw [if_neg c2] at tq
      rw [s38_2]
      simp only [s38_0, s38_1, s38_3, s38_4, s38_7, s38_8, s38_11, s38_14, s38_17, s38_18, s38_21, s38_22, s38_25, s38_25r, s38_26, s38_29, s38_32, nl_sti, nl_str, nl_ci, nl_cr, nl_nil, ld_cons, ld_st, lr_some, li_some, lj_some, n2_nl, n2_ci, n2_cr, n2_nil, n2_sti, n2_str, tl_some, tl_none, cat_le, List.length_cons, List.length_nil, Option.bind_some, Option.bind_none, Option.map_some, cond_true, cond_false, Bool.and_true, Bool.true_and, reduceIte, Nat.reduceEqDiff, Nat.reduceAdd, Nat.reduceLeDiff, Nat.zero_add, Nat.zero_le, Nat.zero_ne_one, Nat.one_ne_zero, Nat.reduceLT, true_or, or_true, false_or, or_false, false_and, true_and, and_false, and_true, not_false_eq_true, not_true_eq_false, eq_self, mA_A, mA_I, mI_A, mI_I, b01, b10, b01n, b10n, i10, i01, im0, ei_max, ei_min, ei_obj, n30, n20, b011, b101, orn, nor, dneg, dnle, dne, dcl, cat0, cat1, cat2, cat3, cat4, gR0_0, pR0_0, gR0_1, pR0_1, gR0_2, pR0_2, gR0_3, pR0_3, gR0_4, pR0_4, gR0_5, pR0_5, gR0_6, pR0_6, gR0_7, gR0_8, gR0_9, gR0_10, gR0_11, gR0_12, gR0_13, gR0_14, gR0_15, gR0_16, cR0, cR5, cR17, cR19, cR26, cR28, cR30, hS, Ou_g0 ho, hL, h0, h1, h2, c1, tq]
      rfl
    · have c2 : ¬ R.1 5 12 = 0 ∨ ¬ R.1 19 4 = 0 := by
        by_cases z : R.1 5 12 = 0
        · exact Or.inr (fun z2 => q ⟨z, z2⟩)
        · exact Or.inl z
      have tq := R_isQuiet (sc := sc) (d := d + 5) (M := M) (R := R) hS
      rw [if_pos c2] at tq
      obtain ⟨k1, k2, nw, wl1, Ln1, k3, k4, k5, k6, k7, k8, k9⟩ := S_tick h (by omega) (by omega) (by omega)
      have tp := R_pass1 (sc := sc) (d := d) (M := M) (R := R) hS hn8 k1
      obtain ⟨i, i1, i2, i3⟩ := O_loop hS ho hN k (j + 1) (rTick R n lv) _ (t + 1) (B + 400) wl1 _ _ Ln1 (e_st1 L 2 (.int (nI (j + 1)))) (by omega) k3 (by omega) (by omega) (by rw [List.length_append, List.length_map]; omega) (by simp (maxDischargeDepth := 9) only [nl_sti, nl_str, nl_ci, nl_cr, nl_nil, ld_cons, ld_st, lr_some, li_some, lj_some, n2_nl, n2_ci, n2_cr, n2_nil, n2_sti, n2_str, tl_some, tl_none, cat_le, List.length_cons, List.length_nil, Option.bind_some, Option.bind_none, Option.map_some, cond_true, cond_false, Bool.and_true, Bool.true_and, reduceIte, Nat.reduceEqDiff, Nat.reduceAdd, Nat.reduceLeDiff, Nat.zero_add, Nat.zero_le, Nat.zero_ne_one, Nat.one_ne_zero, Nat.reduceLT, true_or, or_true, false_or, or_false, false_and, true_and, and_false, and_true, not_false_eq_true, not_true_eq_false, eq_self, mA_A, mA_I, mI_A, mI_I, b01, b10, b01n, b10n, i10, i01, im0, ei_max, ei_min, ei_obj, n30, n20, hL]) (by simp only [nl_sti, nl_str, nl_ci, nl_cr, nl_nil, ld_cons, ld_st, lr_some, li_some, lj_some, n2_nl, n2_ci, n2_cr, n2_nil, n2_sti, n2_str, tl_some, tl_none, cat_le, List.length_cons, List.length_nil, Option.bind_some, Option.bind_none, Option.map_some, cond_true, cond_false, Bool.and_true, Bool.true_and, reduceIte, Nat.reduceEqDiff, Nat.reduceAdd, Nat.reduceLeDiff, Nat.zero_add, Nat.zero_le, Nat.zero_ne_one, Nat.one_ne_zero, Nat.reduceLT, true_or, or_true, false_or, or_false, false_and, true_and, and_false, and_true, not_false_eq_true, not_true_eq_false, eq_self, mA_A, mA_I, mI_A, mI_I, b01, b10, b01n, b10n, i10, i01, im0, ei_max, ei_min, ei_obj, n30, n20, h0]) (by simp only [nl_sti, nl_str, nl_ci, nl_cr, nl_nil, ld_cons, ld_st, lr_some, li_some, lj_some, n2_nl, n2_ci, n2_cr, n2_nil, n2_sti, n2_str, tl_some, tl_none, cat_le, List.length_cons, List.length_nil, Option.bind_some, Option.bind_none, Option.map_some, cond_true, cond_false, Bool.and_true, Bool.true_and, reduceIte, Nat.reduceEqDiff, Nat.reduceAdd, Nat.reduceLeDiff, Nat.zero_add, Nat.zero_le, Nat.zero_ne_one, Nat.one_ne_zero, Nat.reduceLT, true_or, or_true, false_or, or_false, false_and, true_and, and_false, and_true, not_false_eq_true, not_true_eq_false, eq_self, mA_A, mA_I, mI_A, mI_I, b01, b10, b01n, b10n, i10, i01, im0, ei_max, ei_min, ei_obj, n30, n20, h1]) (by simp only [nl_sti, nl_str, nl_ci, nl_cr, nl_nil, ld_cons, ld_st, lr_some, li_some, lj_some, n2_nl, n2_ci, n2_cr, n2_nil, n2_sti, n2_str, tl_some, tl_none, cat_le, List.length_cons, List.length_nil, Option.bind_some, Option.bind_none, Option.map_some, cond_true, cond_false, Bool.and_true, Bool.true_and, reduceIte, Nat.reduceEqDiff, Nat.reduceAdd, Nat.reduceLeDiff, Nat.zero_add, Nat.zero_le, Nat.zero_ne_one, Nat.one_ne_zero, Nat.reduceLT, true_or, or_true, false_or, or_false, false_and, true_and, and_false, and_true, not_false_eq_true, not_true_eq_false, eq_self, mA_A, mA_I, mI_A, mI_I, b01, b10, b01n, b10n, i10, i01, im0, ei_max, ei_min, ei_obj, n30, n20])
      refine ⟨i + 1, by omega, i2.imp (fun z => by omega) id, ?_⟩
      rw [s38_2]
      simp (maxDischargeDepth := 9) only [s38_0, s38_1, s38_3, s38_4, s38_7, s38_8, s38_11, s38_14, s38_17, s38_18, s38_21, s38_22, s38_25, s38_25r, s38_26, s38_29, s38_32, nl_sti, nl_str, nl_ci, nl_cr, nl_nil, ld_cons, ld_st, lr_some, li_some, lj_some, n2_nl, n2_ci, n2_cr, n2_nil, n2_sti, n2_str, tl_some, tl_none, cat_le, List.length_cons, List.length_nil, Option.bind_some, Option.bind_none, Option.map_some, cond_true, cond_false, Bool.and_true, Bool.true_and, reduceIte, Nat.reduceEqDiff, Nat.reduceAdd, Nat.reduceLeDiff, Nat.zero_add, Nat.zero_le, Nat.zero_ne_one, Nat.one_ne_zero, Nat.reduceLT, true_or, or_true, false_or, or_false, false_and, true_and, and_false, and_true, not_false_eq_true, not_true_eq_false, eq_self, mA_A, mA_I, mI_A, mI_I, b01, b10, b01n, b10n, i10, i01, im0, ei_max, ei_min, ei_obj, n30, n20, b011, b101, orn, nor, dneg, dnle, dne, dcl, cat0, cat1, cat2, cat3, cat4, gR0_0, pR0_0, gR0_1, pR0_1, gR0_2, pR0_2, gR0_3, pR0_3, gR0_4, pR0_4, gR0_5, pR0_5, gR0_6, pR0_6, gR0_7, gR0_8, gR0_9, gR0_10, gR0_11, gR0_12, gR0_13, gR0_14, gR0_15, gR0_16, cR0, cR5, cR17, cR19, cR26, cR28, cR30, hS, Ou_g0 ho, hL, h0, h1, h2, c1, tq, tp, nI_1]
      exact i3
theorem O_pass (hS : RowSh sh ap) (ho : shp sh o = some (.inl (3, [ap + 3, x1 + 3, x2 + 3, x3 + 3]))) {N : Nat} {P : aP} (h : TI R P n dl bal lv t B wl al lg [] Ln) (ht : t + N ≤ 10000) (hN2 : N ≤ 200) (hB : B + 80000 < 2 ^ 31) : ∃ i, i ≤ N ∧ (i = N ∨ Qt (rGo n lv i R)) ∧ evp sc (d + 6) 38 0 [(0, .ref o), (1, .int (nI N))] [] (mk sh (gl M ap 31 R)) = some (none, mk sh (gl M ap 31 (rGo n lv i R))) := by
  obtain ⟨i, i1, i2, i3⟩ := O_loop (sc := sc) (d := d) (M := M) hS ho (N := N) (by omega) N 0 R P t B wl al [] Ln (e_st1 [(0, .ref o), (1, .int (nI N))] 2 (.int 0)) (by omega) h ht (by omega) (by show 0 + _ ≤ _; omega) (by simp (maxDischargeDepth := 9) only [nl_sti, nl_str, nl_ci, nl_cr, nl_nil, ld_cons, ld_st, lr_some, li_some, lj_some, n2_nl, n2_ci, n2_cr, n2_nil, n2_sti, n2_str, tl_some, tl_none, cat_le, List.length_cons, List.length_nil, Option.bind_some, Option.bind_none, Option.map_some, cond_true, cond_false, Bool.and_true, Bool.true_and, reduceIte, Nat.reduceEqDiff, Nat.reduceAdd, Nat.reduceLeDiff, Nat.zero_add, Nat.zero_le, Nat.zero_ne_one, Nat.one_ne_zero, Nat.reduceLT, true_or, or_true, false_or, or_false, false_and, true_and, and_false, and_true, not_false_eq_true, not_true_eq_false, eq_self, mA_A, mA_I, mI_A, mI_I, b01, b10, b01n, b10n, i10, i01, im0, ei_max, ei_min, ei_obj, n30, n20]) (by simp only [nl_sti, nl_str, nl_ci, nl_cr, nl_nil, ld_cons, ld_st, lr_some, li_some, lj_some, n2_nl, n2_ci, n2_cr, n2_nil, n2_sti, n2_str, tl_some, tl_none, cat_le, List.length_cons, List.length_nil, Option.bind_some, Option.bind_none, Option.map_some, cond_true, cond_false, Bool.and_true, Bool.true_and, reduceIte, Nat.reduceEqDiff, Nat.reduceAdd, Nat.reduceLeDiff, Nat.zero_add, Nat.zero_le, Nat.zero_ne_one, Nat.one_ne_zero, Nat.reduceLT, true_or, or_true, false_or, or_false, false_and, true_and, and_false, and_true, not_false_eq_true, not_true_eq_false, eq_self, mA_A, mA_I, mI_A, mI_I, b01, b10, b01n, b10n, i10, i01, im0, ei_max, ei_min, ei_obj, n30, n20]) (by simp only [nl_sti, nl_str, nl_ci, nl_cr, nl_nil, ld_cons, ld_st, lr_some, li_some, lj_some, n2_nl, n2_ci, n2_cr, n2_nil, n2_sti, n2_str, tl_some, tl_none, cat_le, List.length_cons, List.length_nil, Option.bind_some, Option.bind_none, Option.map_some, cond_true, cond_false, Bool.and_true, Bool.true_and, reduceIte, Nat.reduceEqDiff, Nat.reduceAdd, Nat.reduceLeDiff, Nat.zero_add, Nat.zero_le, Nat.zero_ne_one, Nat.one_ne_zero, Nat.reduceLT, true_or, or_true, false_or, or_false, false_and, true_and, and_false, and_true, not_false_eq_true, not_true_eq_false, eq_self, mA_A, mA_I, mI_A, mI_I, b01, b10, b01n, b10n, i10, i01, im0, ei_max, ei_min, ei_obj, n30, n20]) (by simp only [nl_sti, nl_str, nl_ci, nl_cr, nl_nil, ld_cons, ld_st, lr_some, li_some, lj_some, n2_nl, n2_ci, n2_cr, n2_nil, n2_sti, n2_str, tl_some, tl_none, cat_le, List.length_cons, List.length_nil, Option.bind_some, Option.bind_none, Option.map_some, cond_true, cond_false, Bool.and_true, Bool.true_and, reduceIte, Nat.reduceEqDiff, Nat.reduceAdd, Nat.reduceLeDiff, Nat.zero_add, Nat.zero_le, Nat.zero_ne_one, Nat.one_ne_zero, Nat.reduceLT, true_or, or_true, false_or, or_false, false_and, true_and, and_false, and_true, not_false_eq_true, not_true_eq_false, eq_self, mA_A, mA_I, mI_A, mI_I, b01, b10, b01n, b10n, i10, i01, im0, ei_max, ei_min, ei_obj, n30, n20, nz0])
  refine ⟨i, i1, i2, ?_⟩
  simp only [s38_0, s38_1, s38_3, s38_4, s38_7, s38_8, s38_11, s38_14, s38_17, s38_18, s38_21, s38_22, s38_25, s38_25r, s38_26, s38_29, s38_32, nl_sti, nl_str, nl_ci, nl_cr, nl_nil, ld_cons, ld_st, lr_some, li_some, lj_some, n2_nl, n2_ci, n2_cr, n2_nil, n2_sti, n2_str, tl_some, tl_none, cat_le, List.length_cons, List.length_nil, Option.bind_some, Option.bind_none, Option.map_some, cond_true, cond_false, Bool.and_true, Bool.true_and, reduceIte, Nat.reduceEqDiff, Nat.reduceAdd, Nat.reduceLeDiff, Nat.zero_add, Nat.zero_le, Nat.zero_ne_one, Nat.one_ne_zero, Nat.reduceLT, true_or, or_true, false_or, or_false, false_and, true_and, and_false, and_true, not_false_eq_true, not_true_eq_false, eq_self, mA_A, mA_I, mI_A, mI_I, b01, b10, b01n, b10n, i10, i01, im0, ei_max, ei_min, ei_obj, n30, n20, b011, b101, orn, nor, dneg, dnle, dne, dcl, cat0, cat1, cat2, cat3, cat4]
  exact i3
/-- the copies are alike -/
theorem Look0 {f g : Nat → Int32} (h : RI (lc M b) f n dl bal lv t B wl al lg Ln) (hT : TdC R) (hg : ∀ j, j < 1922 → g j = f j) (hW : cW W n dl bal lv) : TI (rCopy R (lc M b)) (mI (mI W 0 31 0) 0 32 0, g) n dl bal lv t B wl al lg [] Ln := by
  refine TI_RI.mpr ⟨h.ext (rCopy_agr R (lc M b)) (rCopy_td R (lc M b) hT) hg, hW.of ?_ rfl, cLd_z W⟩
  rw [mI_At, if_neg (by decide), mI_At, if_neg (by decide)]
/-- may it be looked so far ahead -/
theorem far_of {q : Nat} (hq : q ≤ 1) (ht : t ≤ 9999) (c : ¬ ((x < nI q ∨ 200 < x) ∨ 9999 < nI t + x)) : ∃ N, q ≤ N ∧ N ≤ 200 ∧ t + N ≤ 9999 ∧ x = nI N := by
  have c1 : ¬ x < 0 := fun z => c (Or.inl (Or.inl (by
    rcases (show q = 0 ∨ q = 1 by omega) with rfl | rfl
    · exact z
    · exact Int32.lt_trans z (by decide))))
  obtain ⟨N, N1, rfl⟩ := in_of (n := 200) (x := x) (by decide) (fun z => z.elim c1 (fun z => c (Or.inl (Or.inr z))))
  refine ⟨N, ?_, N1, ?_, rfl⟩
  · rcases Nat.lt_or_ge N q with z | z
    · exact absurd (Or.inl (Or.inl (by rw [Int32.lt_iff_toInt_lt, nI_toInt (by omega), nI_toInt (by omega)]; omega))) c
    · exact z
  · rcases Nat.lt_or_ge 9999 (t + N) with z | z
    · exact absurd (Or.inr (by rw [nI_add, show (9999 : Int32) = nI 9999 from rfl, Int32.lt_iff_toInt_lt, nI_toInt (by omega), nI_toInt (by omega)]; omega)) c
    · exact z
theorem R_far (hS : RowSh sh a) {q : Nat} (h0 : R.1 0 0 = nI n) (h2 : 2 ≤ n) (h8 : n ≤ 8) (h6 : R.1 0 6 = nI t) : evp sc d 61 0 [(0, .ref a), (1, .int x), (2, .int (nI q))] [] (mk sh (gl M a 31 R)) = some (some (.int (if (x < nI q ∨ 200 < x) ∨ 9999 < nI t + x then 0 else 1)), mk sh (gl M a 31 R)) := by
  have t0 := R_hasTimeFor (sc := sc) (d := d) (M := M) (R := R) (n := x) (l := nI q) hS
  have e : (nI n = 0) = False := eq_false (nI_ne0 (by omega) (by omega))
  rw [t0, h0, h6]
  simp only [e, false_or]
theorem M_far (hS : ModSh sh a) {q : Nat} (h0 : W.1 0 12 = nI n) (h2 : 2 ≤ n) (h8 : n ≤ 8) (h6 : W.2.1 8 1552 = nI t) : evp sc (d + 1) 265 0 [(0, .ref a), (1, .int x), (2, .int (nI q))] [] (mk sh (gl M a 15 W)) = some (some (.int (if (x < nI q ∨ 200 < x) ∨ 9999 < nI t + x then 0 else 1)), mk sh (gl M a 15 W)) := by
  have t0 := M_canGo (sc := sc) (d := d) (M := M) (W := W) (n := x) (l := nI q) hS
  have e : (nI n ≤ 0) = False := eq_false (fun z => by
    rw [Int32.le_iff_toInt_le, nI_toInt (by omega)] at z
    have : (n : Int) ≤ 0 := z
    omega)
  rw [t0, h0, h6]
  simp only [e, false_or]
/-- the reference's trial, behind N ticks -/
theorem M_trial (hS : ModSh sh a) {N : Nat} (hn : n ≤ 8) (hdl : dl ≤ 3) (hlv : lv ≤ 3) (hN : N ≤ 200) (ok : GoOk n dl lv N (mI (mI W 0 31 0) 0 32 0, cpF (W.2.1 8) (W.2.1 9) 0 0 1922)) :
    evp sc (d + 8) 203 0 [(0, .ref (a + 8)), (1, .int 0), (2, .ref (a + 9)), (3, .int 0)] [] (mk sh (gl M a 15 W)) = some (none, mk sh (gl M a 15 (mR W 9 (cpF (W.2.1 8) (W.2.1 9) 0 0 1922)))) ∧
    evp sc (d + 8) 230 0 [(0, .ref a), (1, .ref (a + 9)), (2, .int (nI N))] [] (mk sh (gl M a 15 (mR W 9 (cpF (W.2.1 8) (W.2.1 9) 0 0 1922)))) = some (none, mk sh (gl M a 15 (mR (mGo n dl lv N (mI (mI W 0 31 0) 0 32 0, cpF (W.2.1 8) (W.2.1 9) 0 0 1922)).1 9 (mGo n dl lv N (mI (mI W 0 31 0) 0 32 0, cpF (W.2.1 8) (W.2.1 9) 0 0 1922)).2))) := by
  have t1 := M_copyRow (sc := sc) (d := d + 8) (sh := sh) (M := M) (W := W) (a := a) (k1 := 8) (k2 := 9) (l1 := 1922) (l2 := 1922) (so := 0) (dd := 0) (by decide) (fun W j => aM8 hS) (fun W j v => wM9 hS) rfl rfl (by omega) (by omega) (by decide) (by decide)
  have t2 := M_goesOn (sc := sc) (d := d) (M := M) (w := 9) (P := (W, cpF (W.2.1 8) (W.2.1 9) 0 0 1922)) hS (Or.inr rfl) hn hdl hlv (show N < 2 ^ 31 by omega) ok
  rw [show nI 0 = (0 : Int32) from rfl] at t1
  exact ⟨t1, t2⟩
end
