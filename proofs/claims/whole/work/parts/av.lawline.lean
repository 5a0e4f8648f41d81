/-! THE LAW: line, which may throw -/
section
variable {sh sh' : List sE} {M W : aM} {B B' : Nat}
theorem IP.she (h : IP sh M W B) (hE : ∀ x s, ¬ x = 126 → shp sh x = some s → shp sh' x = some s) (h126 : ∃ g, shp sh' 126 = some (.inr (.inr (.inl (2, 1, .inr (.inl g)))))) (hl : sh.length ≤ sh'.length) (hz : ∀ F kk, Sz sh F kk B → Sz sh' F kk B') (hB : B ≤ B') : IP sh' M W B' := by
  obtain ⟨F, kk, ⟨h1, hs⟩, h2, h3, h4, h5, h6⟩ := h
  have row : ∀ b, (b + 31 ≤ 126 ∨ 127 ≤ b) → RowSh sh b → RowSh sh' b := fun b hb q k hk => hE _ _ (by omega) (q k hk)
  have h1' : ShOk sh' F kk := by
    obtain ⟨z1, z2, z3, z4, z5, z6, z7, z8, z9, z10, z11, z12, z13, z14, z15, z16, z17, z18, z19, -⟩ := h1
    exact ⟨⟨hE _ _ (by decide) z1.1, hE _ _ (by decide) z1.2⟩, row 41 (by decide) z2, ⟨hE _ _ (by decide) z3.1, hE _ _ (by decide) z3.2⟩, row 75 (by decide) z4, fun k hk => hE _ _ (by omega) (z5 k hk), by omega, hE _ _ (by decide) z7, hE _ _ (by decide) z8, hE _ _ (by decide) z9, hE _ _ (by decide) z10, hE _ _ (by decide) z11, hE _ _ (by decide) z12, hE _ _ (by decide) z13, hE _ _ (by decide) z14, hE _ _ (by decide) z15, hE _ _ (by decide) z16, hE _ _ (by decide) z17, hE _ _ (by decide) z18, hE _ _ (by decide) z19, h126⟩
  refine ⟨F, kk, ⟨h1', hz F kk hs⟩, h2, h3, h4, h5, ?_⟩
  rcases h6 with h6 | ⟨n, dl, bal, lv, t, c, st, st2, wl, al, l, Ln, g1, g2, g3⟩
  · exact Or.inl h6
  · right
    obtain ⟨b1, b2, b3, b4, b5, b6, b7, b8, b9, b10, b11, b12, b13, b14, b15, b16, b17, b18, b19, b20, b21, b22⟩ := g1
    refine ⟨n, dl, bal, lv, t, c, st, st2, wl, al, l, Ln, ⟨h1'.1, h1'.2.1, h1'.2.2.1, ⟨fun i b hi hb => ?_, b4.2⟩, by omega, b6, b7, b8, b9, b10, b11, b12, b13, b14, b15, b16, b17.mono hB, b18, b19.sm hB (fun _ _ _ _ => Sm.rf _ _ _), b20, b21, b22⟩, g2, ?_⟩
    · obtain ⟨p1, p2, p3⟩ := b4.1 i b hi hb
      exact ⟨p1, row b (Or.inr p1) p2, p3⟩
    · obtain ⟨a1, a2, a3, a4⟩ := g3
      refine ⟨a1, a2, ?_, fun q => ?_⟩
      · rcases a3 with e | ⟨b, c1, c2, c3, c4, c5⟩
        · exact Or.inl e
        · exact Or.inr ⟨b, c1, c2, row b (Or.inr c2) c3, c4, c5⟩
      · obtain ⟨b, t, wl, al, l, Ln, e1, e2, e3⟩ := a4 q
        exact ⟨b, t, wl, al, l, Ln, e1, e2, e3.mono hB⟩
end
/-- the cell of what is thrown -/
def exC : aE := .inr (13, [.null, .null, .null, .null, .null, .null])
theorem mk_ex (sh : List sE) (M : aM) : mk sh M ++ [exC] = mk (sh ++ [.inr (.inr exC)]) M := by
  unfold mk
  rw [mkl_app]
  rfl
theorem lgc (x : Int64) : lg_cmp x x = 0 := by
  unfold lg_cmp
  simp [Int64.lt_irrefl]
section
variable {sc : aS} {d i : Nat} {sh : List sE} {M : aM} {B : Nat} {L : aL}
set_option maxRecDepth 20000 in
theorem LC_5 (h : IV sh M B) (hB : B + 1000000 < 2 ^ 31) (hi : i + 6 ≤ sc.1) (hs : sc.1 < 2 ^ 31) (hL : LwL L i) : ∃ sh' M' L', evp sc (d + 81) 296 393 L [] (mk sh M) = evp sc (d + 81) 296 1668 L' [] (mk sh' M') ∧ LwL L' i ∧ IV sh' M' (B + 1000000) := by
  obtain ⟨hN, h0, h1, h2, h3, h4⟩ := hL
  have r1 := fun h => lw_rd hi hs h (show 1 < 6 by decide)
  have r2 := fun h => lw_rd hi hs h (show 2 < 6 by decide)
  have r3 := fun h => lw_rd hi hs h (show 3 < 6 by decide)
  have r4 := fun h => lw_rd hi hs h (show 4 < 6 by decide)
  have hI : IP sh M (lc M 111) B := h
  have hI' := hI
  obtain ⟨F, kk', ⟨hsh, hsz⟩, -⟩ := hI'
  have hbus : shp sh 32 = some (.inl (11, [33 + 3, 38 + 3, 41 + 3, 72 + 3, 74 + 3, 109 + 3, 110 + 3, kk', 0, 0])) := hsh.1.1
  obtain ⟨g, hg⟩ := hsh.2.2.2.2.2.2.2.2.2.2.2.2.2.2.2.2.2.2.2
  have ec : e_c (mk sh M) 32 = some (.inr (11, mkfs 32 M 0 [33 + 3, 38 + 3, 41 + 3, 72 + 3, 74 + 3, 109 + 3, 110 + 3, kk', 0, 0])) := by rw [e_c_mk, hbus]; rfl
  -- what follows when it throws
  have thr : (∀ d0, evp sc (d0 + 2) 60 0 [(0, .ref 41), (1, .int (sc.2 (i + 1))), (2, .int (sc.2 (i + 2))), (3, .int (sc.2 (i + 3)))] [] (mk sh M) = some (some (.int 0), mk sh M)) ∨ (∃ b, (∀ d0, evp sc (d0 + 2) 60 0 [(0, .ref 41), (1, .int (sc.2 (i + 1))), (2, .int (sc.2 (i + 2))), (3, .int (sc.2 (i + 3)))] [] (mk sh M) = some (some (.int b), mk sh M)) ∧ (sc.2 (i + 4) < 0 ∨ 5 < sc.2 (i + 4))) → (∀ sh2, ModSh sh2 111 → evp sc (d + 80) 260 0 [(0, .ref 111), (1, .int (sc.2 (i + 1))), (2, .int (sc.2 (i + 2))), (3, .int (sc.2 (i + 3))), (4, .int (sc.2 (i + 4)))] [] (mk sh2 M) = some (some (.int 0), mk sh2 (gl M 111 15 (mI (mI (lc M 111) 0 0 0) 0 0 1)))) → ∃ sh' M' L', evp sc (d + 81) 296 393 L [] (mk sh M) = evp sc (d + 81) 296 1668 L' [] (mk sh' M') ∧ LwL L' i ∧ IV sh' M' (B + 1000000) := fun hc hr => by
    have tl : e_line (evp sc) (d + 80) [.ref 32, .int (sc.2 (i + 1)), .int (sc.2 (i + 2)), .int (sc.2 (i + 3)), .int (sc.2 (i + 4)), .ref 126] (mk sh M) = some (some (.int 1), mk (sh ++ [.inr (.inr exC)]) M) := by
      rw [← mk_ex]
      have f2 : ((mkfs 32 M 0 [33 + 3, 38 + 3, 41 + 3, 72 + 3, 74 + 3, 109 + 3, 110 + 3, kk', 0, 0])[2]? : Option Value) = some (.ref 41) := rfl
      unfold e_line
      simp only [ec, f2]
      rcases hc with hc | ⟨b, hc, hp⟩
      · have e60 : evp sc (d + 80) 60 0 (lv_args 0 [.ref 41, .int (sc.2 (i + 1)), .int (sc.2 (i + 2)), .int (sc.2 (i + 3))]) [] (mk sh M) = some (some (.int 0), mk sh M) := hc (d + 78)
        simp only [e60, true_or, if_true]
        rfl
      · have e60 : evp sc (d + 80) 60 0 (lv_args 0 [.ref 41, .int (sc.2 (i + 1)), .int (sc.2 (i + 2)), .int (sc.2 (i + 3))]) [] (mk sh M) = some (some (.int b), mk sh M) := hc (d + 78)
        simp only [e60]
        rw [if_pos (Or.inr hp)]
        rfl
    have hE : ∀ x s, ¬ x = 126 → shp sh x = some s → shp (sh ++ [.inr (.inr exC)]) x = some s := fun x s _ q => shp_app q
    have hI2 : IP (sh ++ [.inr (.inr exC)]) M (lc M 111) (B + 1000000) := hI.she hE ⟨g, shp_app hg⟩ (by rw [List.length_append]; omega) (fun F kk q => by
      obtain ⟨q1, q2⟩ := q
      have e1 : (B + 1000000) / 1000000 = B / 1000000 + 1 := by omega
      have e2 : hzS [(.inr (.inr exC) : sE)] = 6 := rfl
      refine ⟨?_, ?_⟩
      · rw [List.length_append, List.length_singleton, e1]; omega
      · rw [hzS_app, e2, e1]; omega) (by omega)
    have tr := hr _ hI2.mod
    have hfin : IV (sh ++ [.inr (.inr exC)]) (gl M 111 15 (mI (mI (lc M 111) 0 0 0) 0 0 1)) (B + 1000000) := (hI2.fr (FrX.rf M) ((FrY_thr _ 0).tr (FrY_thr _ 1)) (Nat.le_refl _)).iv
    have c2 : ∀ X, e_isC (mk (sh ++ [.inr (.inr exC)]) X) 111 12 = true := fun X => hfin.c2
    have gt : e_gf (mk (sh ++ [.inr (.inr exC)]) (gl M 111 15 (mI (mI (lc M 111) 0 0 0) 0 0 1))) 111 12 0 = some (.int 1) := by
      rw [gM0 hI2.mod]
      rw [mI_At, if_pos rfl]
    have e10 : ((1 : Int32) = 0) = False := by decide
    refine ⟨_, _, e_st1 (e_st1 L 5 (.int 1)) 6 (.int 0), ?_, ⟨by simp (maxDischargeDepth := 9) only [nl_sti, nl_str, nl_ci, nl_cr, nl_nil, ld_cons, ld_st, lr_some, li_some, lj_some, n2_nl, n2_ci, n2_cr, n2_nil, n2_sti, n2_str, tl_some, tl_none, cat_le, List.length_cons, List.length_nil, Option.bind_some, Option.bind_none, Option.map_some, cond_true, cond_false, Bool.and_true, Bool.true_and, reduceIte, Nat.reduceEqDiff, Nat.reduceAdd, Nat.reduceLeDiff, Nat.zero_add, Nat.zero_le, Nat.zero_ne_one, Nat.one_ne_zero, Nat.reduceLT, true_or, or_true, false_or, or_false, false_and, true_and, and_false, and_true, not_false_eq_true, not_true_eq_false, eq_self, mA_A, mA_I, mI_A, mI_I, b01, b10, b01n, b10n, i10, i01, im0, ei_max, ei_min, ei_obj, n30, n20, hN], by simp only [nl_sti, nl_str, nl_ci, nl_cr, nl_nil, ld_cons, ld_st, lr_some, li_some, lj_some, n2_nl, n2_ci, n2_cr, n2_nil, n2_sti, n2_str, tl_some, tl_none, cat_le, List.length_cons, List.length_nil, Option.bind_some, Option.bind_none, Option.map_some, cond_true, cond_false, Bool.and_true, Bool.true_and, reduceIte, Nat.reduceEqDiff, Nat.reduceAdd, Nat.reduceLeDiff, Nat.zero_add, Nat.zero_le, Nat.zero_ne_one, Nat.one_ne_zero, Nat.reduceLT, true_or, or_true, false_or, or_false, false_and, true_and, and_false, and_true, not_false_eq_true, not_true_eq_false, eq_self, mA_A, mA_I, mI_A, mI_I, b01, b10, b01n, b10n, i10, i01, im0, ei_max, ei_min, ei_obj, n30, n20, h0], by simp only [nl_sti, nl_str, nl_ci, nl_cr, nl_nil, ld_cons, ld_st, lr_some, li_some, lj_some, n2_nl, n2_ci, n2_cr, n2_nil, n2_sti, n2_str, tl_some, tl_none, cat_le, List.length_cons, List.length_nil, Option.bind_some, Option.bind_none, Option.map_some, cond_true, cond_false, Bool.and_true, Bool.true_and, reduceIte, Nat.reduceEqDiff, Nat.reduceAdd, Nat.reduceLeDiff, Nat.zero_add, Nat.zero_le, Nat.zero_ne_one, Nat.one_ne_zero, Nat.reduceLT, true_or, or_true, false_or, or_false, false_and, true_and, and_false, and_true, not_false_eq_true, not_true_eq_false, eq_self, mA_A, mA_I, mI_A, mI_I, b01, b10, b01n, b10n, i10, i01, im0, ei_max, ei_min, ei_obj, n30, n20, h1], by simp only [nl_sti, nl_str, nl_ci, nl_cr, nl_nil, ld_cons, ld_st, lr_some, li_some, lj_some, n2_nl, n2_ci, n2_cr, n2_nil, n2_sti, n2_str, tl_some, tl_none, cat_le, List.length_cons, List.length_nil, Option.bind_some, Option.bind_none, Option.map_some, cond_true, cond_false, Bool.and_true, Bool.true_and, reduceIte, Nat.reduceEqDiff, Nat.reduceAdd, Nat.reduceLeDiff, Nat.zero_add, Nat.zero_le, Nat.zero_ne_one, Nat.one_ne_zero, Nat.reduceLT, true_or, or_true, false_or, or_false, false_and, true_and, and_false, and_true, not_false_eq_true, not_true_eq_false, eq_self, mA_A, mA_I, mI_A, mI_I, b01, b10, b01n, b10n, i10, i01, im0, ei_max, ei_min, ei_obj, n30, n20, h2], by simp only [nl_sti, nl_str, nl_ci, nl_cr, nl_nil, ld_cons, ld_st, lr_some, li_some, lj_some, n2_nl, n2_ci, n2_cr, n2_nil, n2_sti, n2_str, tl_some, tl_none, cat_le, List.length_cons, List.length_nil, Option.bind_some, Option.bind_none, Option.map_some, cond_true, cond_false, Bool.and_true, Bool.true_and, reduceIte, Nat.reduceEqDiff, Nat.reduceAdd, Nat.reduceLeDiff, Nat.zero_add, Nat.zero_le, Nat.zero_ne_one, Nat.one_ne_zero, Nat.reduceLT, true_or, or_true, false_or, or_false, false_and, true_and, and_false, and_true, not_false_eq_true, not_true_eq_false, eq_self, mA_A, mA_I, mI_A, mI_I, b01, b10, b01n, b10n, i10, i01, im0, ei_max, ei_min, ei_obj, n30, n20, h3], by simp only [nl_sti, nl_str, nl_ci, nl_cr, nl_nil, ld_cons, ld_st, lr_some, li_some, lj_some, n2_nl, n2_ci, n2_cr, n2_nil, n2_sti, n2_str, tl_some, tl_none, cat_le, List.length_cons, List.length_nil, Option.bind_some, Option.bind_none, Option.map_some, cond_true, cond_false, Bool.and_true, Bool.true_and, reduceIte, Nat.reduceEqDiff, Nat.reduceAdd, Nat.reduceLeDiff, Nat.zero_add, Nat.zero_le, Nat.zero_ne_one, Nat.one_ne_zero, Nat.reduceLT, true_or, or_true, false_or, or_false, false_and, true_and, and_false, and_true, not_false_eq_true, not_true_eq_false, eq_self, mA_A, mA_I, mI_A, mI_I, b01, b10, b01n, b10n, i10, i01, im0, ei_max, ei_min, ei_obj, n30, n20, h4]⟩, hfin⟩
    simp (maxDischargeDepth := 9) only [s296_393, s296_394, s296_395, s296_397, s296_398, s296_399, s296_400, s296_401, s296_403, s296_404, s296_405, s296_406, s296_407, s296_409, s296_410, s296_411, s296_412, s296_413, s296_415, s296_416, s296_417, s296_418, s296_419, s296_422, s296_424, s296_425, s296_426, s296_428, s296_429, s296_430, s296_431, s296_432, s296_434, s296_435, s296_436, s296_437, s296_438, s296_440, s296_441, s296_442, s296_443, s296_444, s296_446, s296_447, s296_448, s296_449, s296_452, s296_454, s296_455, s296_458, s296_460, s296_465, s296_467, s296_482, s177_0, s177_1, s177_4, nl_sti, nl_str, nl_ci, nl_cr, nl_nil, ld_cons, ld_st, lr_some, li_some, lj_some, n2_nl, n2_ci, n2_cr, n2_nil, n2_sti, n2_str, tl_some, tl_none, cat_le, List.length_cons, List.length_nil, Option.bind_some, Option.bind_none, Option.map_some, cond_true, cond_false, Bool.and_true, Bool.true_and, reduceIte, Nat.reduceEqDiff, Nat.reduceAdd, Nat.reduceLeDiff, Nat.zero_add, Nat.zero_le, Nat.zero_ne_one, Nat.one_ne_zero, Nat.reduceLT, true_or, or_true, false_or, or_false, false_and, true_and, and_false, and_true, not_false_eq_true, not_true_eq_false, eq_self, mA_A, mA_I, mI_A, mI_I, b01, b10, b01n, b10n, i10, i01, im0, ei_max, ei_min, ei_obj, n30, n20, b011, b101, orn, nor, dneg, dnle, dne, dcl, cat0, cat1, cat2, cat3, cat4, hN, h0, h1, h2, h3, h4, nI_1, na2, na3, na4, na5, r1, r2, r3, r4, tl, tr, c2, gt, e10]
  obtain ⟨kk, hb, hS, hh⟩ := hI.cs
  rcases hh with ⟨n1, n2, n3, n4, n5, n6, n7, n8, n9⟩ | ⟨n, dl, bal, lv, t, wl, al, l, Ln, q1, q2, q3, q4, c, c1, c2, c3⟩
  · refine thr (Or.inl (fun d0 => ?_)) (fun sh2 hS2 => ?_)
    · have t0 := R_hasLine (sc := sc) (d := d0 + 1) (M := M) (R := lc M 41) (s := sc.2 (i + 1)) (b := sc.2 (i + 2)) (v := sc.2 (i + 3)) hS
      have r0 : (lc M 41).1 0 0 = 0 := n1
      have hx : sc.2 (i + 1) < 0 ∨ (0 : Int32) ≤ sc.2 (i + 1) := (Int32.lt_or_le _ 0).elim Or.inl Or.inr
      rw [r0, if_pos (Or.inl hx), gl_lc] at t0
      exact t0
    · have t0 := Q_line_out0 (sc2 := sc) (d2 := d + 77) (M2 := M) (W := lc M 111) (x := sc.2 (i + 1)) (y := sc.2 (i + 2)) (v := sc.2 (i + 3)) (m := sc.2 (i + 4)) hS2 n2
      rw [gl_lc] at t0
      exact t0
  · obtain ⟨⟨o1, o2, o3, o4, o5, o6, o7, o8⟩, t1, t2, t3, t4, t5, t6, t7⟩ := q1.1
    have tc : ∀ d0, _ := fun d0 => R_hasL (sc := sc) (d := d0 + 1) (M := M) (x := sc.2 (i + 1)) (y := sc.2 (i + 2)) (v := sc.2 (i + 3)) hS o1 o5
    simp only [gl_lc] at tc
    by_cases cr : ((sc.2 (i + 1) < 0 ∨ nI n ≤ sc.2 (i + 1)) ∨ (sc.2 (i + 2) < 0 ∨ 1 < sc.2 (i + 2)) ∨ (sc.2 (i + 3) < 0 ∨ nI lv ≤ sc.2 (i + 3))) ∨ (sc.2 (i + 4) < 0 ∨ 5 < sc.2 (i + 4))
    · refine thr ?_ (fun sh2 hS2 => ?_)
      · rcases cr with z | z
        · exact Or.inl (fun d0 => by rw [tc d0, if_pos z])
        · exact Or.inr ⟨_, fun d0 => tc d0, z⟩
      · have t0 := Q_line_out (sc2 := sc) (d2 := d + 77) (M2 := M) (W := lc M 111) (x := sc.2 (i + 1)) (y := sc.2 (i + 2)) (v := sc.2 (i + 3)) (m := sc.2 (i + 4)) hS2 q2.1 q2.2.2.2 t7 o6 cr
        rw [gl_lc] at t0
        exact t0
    · have cr1 : ¬ ((sc.2 (i + 1) < 0 ∨ nI n ≤ sc.2 (i + 1)) ∨ (sc.2 (i + 2) < 0 ∨ 1 < sc.2 (i + 2)) ∨ (sc.2 (i + 3) < 0 ∨ nI lv ≤ sc.2 (i + 3))) := fun z => cr (Or.inl z)
      have cr2 : ¬ (sc.2 (i + 4) < 0 ∨ 5 < sc.2 (i + 4)) := fun z => cr (Or.inr z)
      have hset : ∀ v : Int64, (mk sh M).set (126 - 32) (.inl (2, 1, .inr (.inl (vp_updL g 0 v)))) = mk (sh.set (126 - 32) (.inr (.inr (.inl (2, 1, .inr (.inl (vp_updL g 0 v))))))) M := fun v => mk_set hg rfl (fun _ _ _ => rfl)
      have hI2 : ∀ v : Int64, IP (sh.set (126 - 32) (.inr (.inr (.inl (2, 1, .inr (.inl (vp_updL g 0 v))))))) M (lc M 111) (B + 1000000) := fun v => hI.she (fun x s hx q => shp_set_o (by decide) q hx) ⟨_, shp_set_s hg⟩ (by rw [List.length_set]; exact Nat.le_refl _) (fun F kk q => by
        have e1 : hzS (sh.set (126 - 32) (.inr (.inr (.inl (2, 1, .inr (.inl (vp_updL g 0 v))))))) = hzS sh := by
          have hg' := hg
          unfold shp at hg'
          simp only [show Nat.blt 126 32 = false from rfl, cond_false] at hg'
          exact hzS_set hg' rfl
        have q' := q.mono (show B ≤ B + 1000000 by omega)
        unfold Sz at q' ⊢
        rw [e1, List.length_set]
        exact q') (by omega)
      -- what the class answers decides the place; the reference is asked behind it
      obtain ⟨a0, u1, -⟩ := Q_line (sc := sc) (sc2 := sc) (d := d + 77) (d2 := d + 77) (M := M) (M2 := M) (W := lc M 111) (R := lc M 41) (x := sc.2 (i + 1)) (y := sc.2 (i + 2)) (v := sc.2 (i + 3)) (m := sc.2 (i + 4)) hb hS hsh.2.2.2.2.1 q1 q2 cr1 cr2
      obtain ⟨ans, u2, u3⟩ := Q_line (sc := sc) (sc2 := sc) (d := d + 77) (d2 := d + 77) (M := M) (M2 := M) (W := lc M 111) (R := lc M 41) (x := sc.2 (i + 1)) (y := sc.2 (i + 2)) (v := sc.2 (i + 3)) (m := sc.2 (i + 4)) hb hS (hI2 a0.toInt64).mod q1 q2 cr1 cr2
      have ea : ans = a0 := by
        have := u1.symm.trans u2
        have e := (Prod.mk.inj (Option.some.inj this)).1
        exact (Value.int.inj (Option.some.inj e)).symm
      subst ea
      rw [gl_lc] at u2 u3
      have tl : e_line (evp sc) (d + 80) [.ref 32, .int (sc.2 (i + 1)), .int (sc.2 (i + 2)), .int (sc.2 (i + 3)), .int (sc.2 (i + 4)), .ref 126] (mk sh M) = some (some (.int 0), mk (sh.set (126 - 32) (.inr (.inr (.inl (2, 1, .inr (.inl (vp_updL g 0 ans.toInt64))))))) M) := by
        have f2 : ((mkfs 32 M 0 [33 + 3, 38 + 3, 41 + 3, 72 + 3, 74 + 3, 109 + 3, 110 + 3, kk', 0, 0])[2]? : Option Value) = some (.ref 41) := rfl
        have e60 : evp sc (d + 80) 60 0 (lv_args 0 [.ref 41, .int (sc.2 (i + 1)), .int (sc.2 (i + 2)), .int (sc.2 (i + 3))]) [] (mk sh M) = some (some (.int 1), mk sh M) := by
          have := tc (d + 78)
          rw [if_neg cr1] at this
          exact this
        have e134 : evp sc (d + 80) 134 0 (lv_args 0 [.ref 32, .int (sc.2 (i + 1)), .int (sc.2 (i + 2)), .int (sc.2 (i + 3)), .int (sc.2 (i + 4))]) [] (mk sh M) = some (some (.int ans), mk sh M) := u2
        have e126 : e_c (mk sh M) 126 = some (.inl (2, 1, .inr (.inl g))) := by rw [e_c_mk, hg]; rfl
        have e10 : ((1 : Int32) = 0) = False := by decide
        unfold e_line
        simp only [ec, f2, e60, e10, false_or]
        rw [if_neg cr2]
        simp only [e134, e126]
        rw [if_pos (by decide), hset]
      have hfin : IV (sh.set (126 - 32) (.inr (.inr (.inl (2, 1, .inr (.inl (vp_updL g 0 ans.toInt64))))))) (gl M 111 15 (mI (lc M 111) 0 0 0)) (B + 1000000) := ((hI2 ans.toInt64).fr (FrX.rf M) (FrY_thr _ 0) (Nat.le_refl _)).iv
      have c2 : ∀ X, e_isC (mk (sh.set (126 - 32) (.inr (.inr (.inl (2, 1, .inr (.inl (vp_updL g 0 ans.toInt64))))))) X) 111 12 = true := fun X => hfin.c2
      have gt : e_gf (mk (sh.set (126 - 32) (.inr (.inr (.inl (2, 1, .inr (.inl (vp_updL g 0 ans.toInt64))))))) (gl M 111 15 (mI (lc M 111) 0 0 0))) 111 12 0 = some (.int 0) := by
        rw [gM0 (hI2 ans.toInt64).mod]
        rw [mI_At, if_pos rfl]
      have e126' : e_c (mk (sh.set (126 - 32) (.inr (.inr (.inl (2, 1, .inr (.inl (vp_updL g 0 ans.toInt64))))))) (gl M 111 15 (mI (lc M 111) 0 0 0))) 126 = some (.inl (2, 1, .inr (.inl (vp_updL g 0 ans.toInt64)))) := by rw [e_c_mk, shp_set_s hg]; rfl
      have tla := fun (LL : aL) => st_laload (sc := sc) (d := d + 81) (L := LL) (S := []) e126' (show ¬ ((0 : Int32) < 0 ∨ 1 ≤ (0 : Int32).toNatClampNeg) by decide) (show pT 296 472 = some (.laload, 473, 0, 0) by decide +kernel)
      rw [show vp_updL g 0 ans.toInt64 (0 : Int32).toNatClampNeg = ans.toInt64 from rfl] at tla
      refine ⟨_, _, e_st1 (e_st1 L 5 (.int 0)) 6 (.int ans), ?_, ⟨by simp (maxDischargeDepth := 9) only [nl_sti, nl_str, nl_ci, nl_cr, nl_nil, ld_cons, ld_st, lr_some, li_some, lj_some, n2_nl, n2_ci, n2_cr, n2_nil, n2_sti, n2_str, tl_some, tl_none, cat_le, List.length_cons, List.length_nil, Option.bind_some, Option.bind_none, Option.map_some, cond_true, cond_false, Bool.and_true, Bool.true_and, reduceIte, Nat.reduceEqDiff, Nat.reduceAdd, Nat.reduceLeDiff, Nat.zero_add, Nat.zero_le, Nat.zero_ne_one, Nat.one_ne_zero, Nat.reduceLT, true_or, or_true, false_or, or_false, false_and, true_and, and_false, and_true, not_false_eq_true, not_true_eq_false, eq_self, mA_A, mA_I, mI_A, mI_I, b01, b10, b01n, b10n, i10, i01, im0, ei_max, ei_min, ei_obj, n30, n20, hN], by simp only [nl_sti, nl_str, nl_ci, nl_cr, nl_nil, ld_cons, ld_st, lr_some, li_some, lj_some, n2_nl, n2_ci, n2_cr, n2_nil, n2_sti, n2_str, tl_some, tl_none, cat_le, List.length_cons, List.length_nil, Option.bind_some, Option.bind_none, Option.map_some, cond_true, cond_false, Bool.and_true, Bool.true_and, reduceIte, Nat.reduceEqDiff, Nat.reduceAdd, Nat.reduceLeDiff, Nat.zero_add, Nat.zero_le, Nat.zero_ne_one, Nat.one_ne_zero, Nat.reduceLT, true_or, or_true, false_or, or_false, false_and, true_and, and_false, and_true, not_false_eq_true, not_true_eq_false, eq_self, mA_A, mA_I, mI_A, mI_I, b01, b10, b01n, b10n, i10, i01, im0, ei_max, ei_min, ei_obj, n30, n20, h0], by simp only [nl_sti, nl_str, nl_ci, nl_cr, nl_nil, ld_cons, ld_st, lr_some, li_some, lj_some, n2_nl, n2_ci, n2_cr, n2_nil, n2_sti, n2_str, tl_some, tl_none, cat_le, List.length_cons, List.length_nil, Option.bind_some, Option.bind_none, Option.map_some, cond_true, cond_false, Bool.and_true, Bool.true_and, reduceIte, Nat.reduceEqDiff, Nat.reduceAdd, Nat.reduceLeDiff, Nat.zero_add, Nat.zero_le, Nat.zero_ne_one, Nat.one_ne_zero, Nat.reduceLT, true_or, or_true, false_or, or_false, false_and, true_and, and_false, and_true, not_false_eq_true, not_true_eq_false, eq_self, mA_A, mA_I, mI_A, mI_I, b01, b10, b01n, b10n, i10, i01, im0, ei_max, ei_min, ei_obj, n30, n20, h1], by simp only [nl_sti, nl_str, nl_ci, nl_cr, nl_nil, ld_cons, ld_st, lr_some, li_some, lj_some, n2_nl, n2_ci, n2_cr, n2_nil, n2_sti, n2_str, tl_some, tl_none, cat_le, List.length_cons, List.length_nil, Option.bind_some, Option.bind_none, Option.map_some, cond_true, cond_false, Bool.and_true, Bool.true_and, reduceIte, Nat.reduceEqDiff, Nat.reduceAdd, Nat.reduceLeDiff, Nat.zero_add, Nat.zero_le, Nat.zero_ne_one, Nat.one_ne_zero, Nat.reduceLT, true_or, or_true, false_or, or_false, false_and, true_and, and_false, and_true, not_false_eq_true, not_true_eq_false, eq_self, mA_A, mA_I, mI_A, mI_I, b01, b10, b01n, b10n, i10, i01, im0, ei_max, ei_min, ei_obj, n30, n20, h2], by simp only [nl_sti, nl_str, nl_ci, nl_cr, nl_nil, ld_cons, ld_st, lr_some, li_some, lj_some, n2_nl, n2_ci, n2_cr, n2_nil, n2_sti, n2_str, tl_some, tl_none, cat_le, List.length_cons, List.length_nil, Option.bind_some, Option.bind_none, Option.map_some, cond_true, cond_false, Bool.and_true, Bool.true_and, reduceIte, Nat.reduceEqDiff, Nat.reduceAdd, Nat.reduceLeDiff, Nat.zero_add, Nat.zero_le, Nat.zero_ne_one, Nat.one_ne_zero, Nat.reduceLT, true_or, or_true, false_or, or_false, false_and, true_and, and_false, and_true, not_false_eq_true, not_true_eq_false, eq_self, mA_A, mA_I, mI_A, mI_I, b01, b10, b01n, b10n, i10, i01, im0, ei_max, ei_min, ei_obj, n30, n20, h3], by simp only [nl_sti, nl_str, nl_ci, nl_cr, nl_nil, ld_cons, ld_st, lr_some, li_some, lj_some, n2_nl, n2_ci, n2_cr, n2_nil, n2_sti, n2_str, tl_some, tl_none, cat_le, List.length_cons, List.length_nil, Option.bind_some, Option.bind_none, Option.map_some, cond_true, cond_false, Bool.and_true, Bool.true_and, reduceIte, Nat.reduceEqDiff, Nat.reduceAdd, Nat.reduceLeDiff, Nat.zero_add, Nat.zero_le, Nat.zero_ne_one, Nat.one_ne_zero, Nat.reduceLT, true_or, or_true, false_or, or_false, false_and, true_and, and_false, and_true, not_false_eq_true, not_true_eq_false, eq_self, mA_A, mA_I, mI_A, mI_I, b01, b10, b01n, b10n, i10, i01, im0, ei_max, ei_min, ei_obj, n30, n20, h4]⟩, hfin⟩
      simp (maxDischargeDepth := 9) only [s296_393, s296_394, s296_395, s296_397, s296_398, s296_399, s296_400, s296_401, s296_403, s296_404, s296_405, s296_406, s296_407, s296_409, s296_410, s296_411, s296_412, s296_413, s296_415, s296_416, s296_417, s296_418, s296_419, s296_422, s296_424, s296_425, s296_426, s296_428, s296_429, s296_430, s296_431, s296_432, s296_434, s296_435, s296_436, s296_437, s296_438, s296_440, s296_441, s296_442, s296_443, s296_444, s296_446, s296_447, s296_448, s296_449, s296_452, s296_454, s296_455, s296_458, s296_460, s296_465, s296_467, s296_470, s296_471, s296_473, s296_475, s296_476, s296_477, s296_482, s177_0, s177_1, s177_4, nl_sti, nl_str, nl_ci, nl_cr, nl_nil, ld_cons, ld_st, lr_some, li_some, lj_some, n2_nl, n2_ci, n2_cr, n2_nil, n2_sti, n2_str, tl_some, tl_none, cat_le, List.length_cons, List.length_nil, Option.bind_some, Option.bind_none, Option.map_some, cond_true, cond_false, Bool.and_true, Bool.true_and, reduceIte, Nat.reduceEqDiff, Nat.reduceAdd, Nat.reduceLeDiff, Nat.zero_add, Nat.zero_le, Nat.zero_ne_one, Nat.one_ne_zero, Nat.reduceLT, true_or, or_true, false_or, or_false, false_and, true_and, and_false, and_true, not_false_eq_true, not_true_eq_false, eq_self, mA_A, mA_I, mI_A, mI_I, b01, b10, b01n, b10n, i10, i01, im0, ei_max, ei_min, ei_obj, n30, n20, b011, b101, orn, nor, dneg, dnle, dne, dcl, cat0, cat1, cat2, cat3, cat4, hN, h0, h1, h2, h3, h4, nI_1, na2, na3, na4, na5, r1, r2, r3, r4, tl, u3, c2, gt, tla, lgc]
end
