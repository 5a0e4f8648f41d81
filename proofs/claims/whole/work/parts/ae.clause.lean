/-! A ROW as a text: the reference's clauses -/
/-- where a fault lies -/
theorem itP_p {T ls : List Nat} {lo hi : Nat → Nat} {b : Nat} : ∀ (k s : Nat) (g : Nat → Int32) (r : List Nat) (p : Nat), itP T ls lo hi b k s g r = .error p → p ≤ T.length
  | 0, s, g, r, p, h => by cases h
  | k + 1, s, g, r, p, h => by
    have h : (match ixr ls (sk r) with
      | none => Except.ok (g, sk r)
      | some i => if s.testBit i = true then .error (po T (sk r)) else
        if nok 3 (sk r).tail = true then
          (if lo i ≤ nv 3 (sk r).tail ∧ nv 3 (sk r).tail ≤ hi i then itP T ls lo hi b k (s ||| 2 ^ i) (up g (b + i) (nI (nv 3 (sk r).tail))) (nr 3 (sk r).tail) else .error (po T (nr 3 (sk r).tail) - 1))
        else .error (po T (nr 3 (sk r).tail))) = Except.error p := h
    have hp : ∀ r, po T r ≤ T.length := fun r => Nat.sub_le _ _
    cases hx : ixr ls (sk r) with
    | none => rw [hx] at h; cases h
    | some i =>
      rw [hx] at h
      simp only at h
      split at h
      · rw [← Except.error.inj h]; exact hp _
      · split at h
        · split at h
          · exact itP_p k _ _ _ p h
          · rw [← Except.error.inj h]
            have := hp (nr 3 (sk r).tail)
            omega
        · rw [← Except.error.inj h]; exact hp _
theorem clP_p {T r : List Nat} {ru : Bool} {cl p : Nat} {gr gw : Nat → Int32} (h : clP T ru cl gr gw r = .error p) (hT : T.length ≤ 240) (hr : Sx T r) : p < 2 ^ 31 := by
  have hp : ∀ r, po T r ≤ T.length := fun r => Nat.sub_le _ _
  have : p ≤ T.length := by
    unfold clP at h
    cases hsk : sk r with
    | nil => rw [hsk] at h; rw [← Except.error.inj h]; exact hp _
    | cons x r2 =>
      rw [hsk] at h
      simp only at h
      split at h
      · cases ho : itP T rls rlo rhi 0 6 0 gr r2 with
        | error p' => rw [ho] at h; rw [← Except.error.inj h]; exact itP_p _ _ _ _ _ ho
        | ok o => rw [ho] at h; cases h
      · split at h
        · cases ho : itP T wls wlo whi (4 * cl) 5 0 (wdf gw (4 * cl)) r2 with
          | error p' => rw [ho] at h; rw [← Except.error.inj h]; exact itP_p _ _ _ _ _ ho
          | ok o => rw [ho] at h; cases h
        · rw [← Except.error.inj h]; exact hp _
  omega
section
variable {sc : aS} {d : Nat} {sh : List sE} {M W X : aM} {a : Nat} {T r : List Nat} {v u f isr : Int32} {c t p : Nat} {h : aH} {g : Nat → Int32}
theorem M_w4q (hS : ModSh sh a) {j : Nat} (hj : j < 32) : e_is (mk sh (gl M a 15 (qS (mR X 4 g) p f t))) (a + 4) (nI j) u = some (mk sh (gl M a 15 (qS (mR X 4 (up g j u)) p f t))) := by
  rw [M_w4 hS _ j u hj, ← mA_mR]
  rfl
theorem M_w2q (hS : ModSh sh a) {j : Nat} (hj : j < 5) : e_is (mk sh (gl M a 15 (mR X 2 g))) (a + 2) (nI j) u = some (mk sh (gl M a 15 (mR X 2 (up g j u)))) := by
  rw [M_w2 hS _ j u hj, ← mA_mR]
theorem M_clause (hS : ModSh sh a) (hT : RTp W T) {ru : Bool} {cl : Nat} {gr gw : Nat → Int32} (hcl : cl ≤ 8) (hr : Sx T r) : RCl (evp sc (d + 8 + 1 + 1 + 1) 195 0 [(0, .ref a), (1, .int (if ru = true then 1 else 0))] [] (mk sh (gl M a 15 (qS (mR (mR W 2 gr) 4 gw) (po T r) (-1) cl)))) sh M W a T (clP T ru cl gr gw r) := by
  have hT2 : RTp (mR (mR W 2 gr) 4 gw) T := (hT.mR (by decide)).mR (by decide)
  have tl := M_look (sc := sc) (d := d + 8 + 1) (M := M) (f := -1) (t := cl) hS hT2 r hr
  have tl2 := M_look (sc := sc) (d := d + 8 + 1) (M := M) (f := -1) (t := cl) hS hT2 (sk r) hr.skp
  rw [sk_sk] at tl2
  have tf := M_fails (sc := sc) (d := d + 8 + 1 + 1) (M := M) (W := mR (mR W 2 gr) 4 gw) (f := -1) (t := cl) (p := po T (sk r)) hS
  rw [if_pos rfl] at tf
  have hrs := hr.skp
  unfold clP
  cases hsk : sk r with
  | nil =>
    rw [hsk] at tl tl2 tf
    have z1 : ((-1 : Int32) = 115) = False := by decide
    have z2 : ((-1 : Int32) = 113) = False := by decide
    refine ⟨gr, gw, po T [], cl, if ru = true then 1 else 0, ?_⟩
    simp (maxDischargeDepth := 9) only [s195_0, s195_1, s195_4, s195_6, s195_13, s195_14, s195_15, s195_16, s195_26, s195_27, s195_30, s195_32, s195_44, s195_45, s195_48, s195_49, nl_sti, nl_str, nl_ci, nl_cr, nl_nil, ld_cons, ld_st, lr_some, li_some, lj_some, n2_nl, n2_ci, n2_cr, n2_nil, n2_sti, n2_str, tl_some, tl_none, cat_le, List.length_cons, List.length_nil, Option.bind_some, Option.bind_none, Option.map_some, cond_true, cond_false, Bool.and_true, Bool.true_and, reduceIte, Nat.reduceEqDiff, Nat.reduceAdd, Nat.reduceLeDiff, Nat.zero_add, Nat.zero_le, Nat.zero_ne_one, Nat.one_ne_zero, Nat.reduceLT, true_or, or_true, false_or, or_false, false_and, true_and, and_false, and_true, not_false_eq_true, not_true_eq_false, eq_self, mA_A, mA_I, mI_A, mI_I, b01, b10, b01n, b10n, i10, i01, im0, ei_max, ei_min, ei_obj, n30, n20, b011, b101, orn, nor, dneg, dnle, dne, dcl, cat0, cat1, cat2, cat3, cat4, cM hS, nl_cj, tl, tl2, tf, hdm, z1, z2]
  | cons x r2 =>
    rw [hsk] at tl tl2 tf hrs
    obtain ⟨-, hx0, hx⟩ := hT.2.2 _ _ hrs.get
    have e115 : (nI x = 115) = (x = 115) := propext (nI_eq (b := 115) (by omega) (by decide))
    have e113 : (nI x = 113) = (x = 113) := propext (nI_eq (b := 113) (by omega) (by decide))
    have e8 : (nI cl = 8) = (cl = 8) := propext (nI_eq (b := 8) (by omega) (by decide))
    have e10 : ((1 : Int32) = 0) = False := by decide
    simp only
    by_cases qs : x = 115 ∧ ru = false
    · obtain ⟨q1, q2⟩ := qs
      subst q2
      rw [if_pos (show x = 115 ∧ false = false from ⟨q1, rfl⟩)]
      have t115 : (nI x = 115) = True := eq_true (by rw [q1]; rfl)
      have zz : (if false = true then (1 : Int32) else 0) = 0 := rfl
      have ti := M_items1 (sc := sc) (d := d) (M := M) (W := mR W 4 gw) (t := cl) (g := gr) hS (hT.mR (by decide)) hrs.tl
      rw [mR_cm (k := 2) (w := 4) (by decide)] at ti
      have tp : ∀ M', evp sc (d + 8 + 1 + 1) 194 0 [(0, .ref a), (1, .ref (a + 2)), (2, .int 0), (3, .ref 19)] [] (mk sh (gl M a 15 (qS (mR (mR W 2 gr) 4 gw) (po T r2) (-1) cl))) = some (none, M') → evp sc (d + 8 + 1 + 1 + 1) 195 0 [(0, .ref a), (1, .int (if false = true then 1 else 0))] [] (mk sh (gl M a 15 (qS (mR (mR W 2 gr) 4 gw) (po T r) (-1) cl))) = some (some (.int 1), M') := fun M' tt => by
        rw [zz]
        simp (maxDischargeDepth := 9) only [s195_0, s195_1, s195_4, s195_6, s195_9, s195_10, s195_14, s195_15, s195_16, s195_19, s195_20, s195_50, s195_51r, s195_52, s195_55, s195_56, s195_57, s195_60, s195_61, s195_64, s195_65, s195_66, s195_69, s195_70, s195_72, s195_75, s195_76, nl_sti, nl_str, nl_ci, nl_cr, nl_nil, ld_cons, ld_st, lr_some, li_some, lj_some, n2_nl, n2_ci, n2_cr, n2_nil, n2_sti, n2_str, tl_some, tl_none, cat_le, List.length_cons, List.length_nil, Option.bind_some, Option.bind_none, Option.map_some, cond_true, cond_false, Bool.and_true, Bool.true_and, reduceIte, Nat.reduceEqDiff, Nat.reduceAdd, Nat.reduceLeDiff, Nat.zero_add, Nat.zero_le, Nat.zero_ne_one, Nat.one_ne_zero, Nat.reduceLT, true_or, or_true, false_or, or_false, false_and, true_and, and_false, and_true, not_false_eq_true, not_true_eq_false, eq_self, mA_A, mA_I, mI_A, mI_I, b01, b10, b01n, b10n, i10, i01, im0, ei_max, ei_min, ei_obj, n30, n20, b011, b101, orn, nor, dneg, dnle, dne, dcl, cat0, cat1, cat2, cat3, cat4, gM3, pM3, gM5, cM, cM hS, hS, nl_cj, tl, hdm, t115, e10, qS_3, qS_w3, nI_1, hrs.po1, tt]
      cases ho : itP T rls rlo rhi 0 6 0 gr r2 with
      | error p =>
        rw [ho] at ti
        obtain ⟨g', p', tt⟩ := ti
        rw [mR_cm (k := 2) (w := 4) (by decide)] at tt
        exact ⟨g', gw, p', cl, 1, tp _ tt⟩
      | ok q =>
        obtain ⟨g1, r1⟩ := q
        rw [ho] at ti
        have tt : _ = some (none, mk sh (gl M a 15 (qS (mR (mR W 4 gw) 2 g1) (po T r1) (-1) cl))) := ti
        rw [mR_cm (k := 2) (w := 4) (by decide)] at tt
        exact tp _ tt
    · by_cases qq : x = 113 ∧ cl < 8
      · obtain ⟨q1, q2⟩ := qq
        rw [if_neg qs, if_pos (show x = 113 ∧ cl < 8 from ⟨q1, q2⟩)]
        have f115 : (nI x = 115) = False := by rw [e115]; exact eq_false (by omega)
        have t113 : (nI x = 113) = True := eq_true (by rw [q1]; rfl)
        have f8 : (nI cl = 8) = False := by rw [e8]; exact eq_false (by omega)
        have m4 : (4 : Int32) * nI cl = nI (4 * cl) := nI_mul 4 cl
        have ti := M_items0 (sc := sc) (d := d) (M := M) (W := mR W 2 gr) (t := cl + 1) (g := wdf gw (4 * cl)) (b := 4 * cl) hS (hT.mR (by decide)) (by omega) hrs.tl
        have w0 := fun g u => M_w4q (M := M) (X := mR W 2 gr) (p := po T r2) (f := -1) (t := cl) (g := g) (u := u) hS (show 4 * cl < 32 by omega)
        have w1 := fun g u => M_w4q (M := M) (X := mR W 2 gr) (p := po T r2) (f := -1) (t := cl) (g := g) (u := u) hS (show 4 * cl + 1 < 32 by omega)
        have w2 := fun g u => M_w4q (M := M) (X := mR W 2 gr) (p := po T r2) (f := -1) (t := cl) (g := g) (u := u) hS (show 4 * cl + 2 < 32 by omega)
        have w3 := fun g u => M_w4q (M := M) (X := mR W 2 gr) (p := po T r2) (f := -1) (t := cl) (g := g) (u := u) hS (show 4 * cl + 3 < 32 by omega)
        have tp : ∀ M', evp sc (d + 8 + 1 + 1) 194 0 [(0, .ref a), (1, .ref (a + 4)), (2, .int (nI (4 * cl))), (3, .ref 20)] [] (mk sh (gl M a 15 (qS (mR (mR W 2 gr) 4 (up (up (up (up gw (4 * cl) 0) (4 * cl + 1) 1) (4 * cl + 2) 0) (4 * cl + 3) 1)) (po T r2) (-1) (cl + 1)))) = some (none, M') → evp sc (d + 8 + 1 + 1 + 1) 195 0 [(0, .ref a), (1, .int (if ru = true then 1 else 0))] [] (mk sh (gl M a 15 (qS (mR (mR W 2 gr) 4 gw) (po T r) (-1) cl))) = some (some (.int (if ru = true then 1 else 0)), M') := fun M' tt => by
          simp (maxDischargeDepth := 9) only [s195_0, s195_1, s195_4, s195_6, s195_13, s195_14, s195_15, s195_16, s195_26, s195_27, s195_30, s195_32, s195_35, s195_36, s195_39, s195_41, s195_50, s195_51r, s195_52, s195_55, s195_56, s195_57, s195_60, s195_61, s195_77, s195_78, s195_79, s195_82, s195_83, s195_84, s195_85, s195_88, s195_89, s195_90, s195_91, s195_92, s195_95, s195_96, s195_97, s195_98, s195_99, s195_100, s195_101, s195_104, s195_105, s195_106, s195_107, s195_108, s195_109, s195_110, s195_113, s195_114, s195_115, s195_116, s195_117, s195_118, s195_119r, s195_120, s195_123, s195_124, s195_125, s195_128, s195_129, s195_130, s195_133, s195_134, s195_136, s195_139, s195_140, nl_sti, nl_str, nl_ci, nl_cr, nl_nil, ld_cons, ld_st, lr_some, li_some, lj_some, n2_nl, n2_ci, n2_cr, n2_nil, n2_sti, n2_str, tl_some, tl_none, cat_le, List.length_cons, List.length_nil, Option.bind_some, Option.bind_none, Option.map_some, cond_true, cond_false, Bool.and_true, Bool.true_and, reduceIte, Nat.reduceEqDiff, Nat.reduceAdd, Nat.reduceLeDiff, Nat.zero_add, Nat.zero_le, Nat.zero_ne_one, Nat.one_ne_zero, Nat.reduceLT, true_or, or_true, false_or, or_false, false_and, true_and, and_false, and_true, not_false_eq_true, not_true_eq_false, eq_self, mA_A, mA_I, mI_A, mI_I, b01, b10, b01n, b10n, i10, i01, im0, ei_max, ei_min, ei_obj, n30, n20, b011, b101, orn, nor, dneg, dnle, dne, dcl, cat0, cat1, cat2, cat3, cat4, gM3, pM3, gM7, gM11, pM11, cM, cM hS, hS, nl_cj, tl, tl2, hdm, f115, t113, f8, m4, qS_3, qS_w3, qS_11, qS_w11, nI_1, na2, na3, hrs.po1, w0, w1, w2, w3, tt]
        cases ho : itP T wls wlo whi (4 * cl) 5 0 (wdf gw (4 * cl)) r2 with
        | error p =>
          rw [ho] at ti
          obtain ⟨g', p', tt⟩ := ti
          exact ⟨gr, g', p', cl + 1, if ru = true then 1 else 0, tp _ tt⟩
        | ok q =>
          obtain ⟨g1, r1⟩ := q
          rw [ho] at ti
          exact tp _ ti
      · rw [if_neg qs, if_neg qq]
        refine ⟨gr, gw, po T (x :: r2), cl, if ru = true then 1 else 0, ?_⟩
        by_cases q1 : x = 115
        · have hru : ru = true := by cases ru; exact absurd ⟨q1, rfl⟩ qs; rfl
          subst hru
          have t115 : (nI x = 115) = True := eq_true (by rw [q1]; rfl)
          simp (maxDischargeDepth := 9) only [s195_0, s195_1, s195_4, s195_6, s195_9, s195_10, s195_14, s195_15, s195_16, s195_19, s195_20, s195_23, s195_44, s195_45, s195_48, s195_49, nl_sti, nl_str, nl_ci, nl_cr, nl_nil, ld_cons, ld_st, lr_some, li_some, lj_some, n2_nl, n2_ci, n2_cr, n2_nil, n2_sti, n2_str, tl_some, tl_none, cat_le, List.length_cons, List.length_nil, Option.bind_some, Option.bind_none, Option.map_some, cond_true, cond_false, Bool.and_true, Bool.true_and, reduceIte, Nat.reduceEqDiff, Nat.reduceAdd, Nat.reduceLeDiff, Nat.zero_add, Nat.zero_le, Nat.zero_ne_one, Nat.one_ne_zero, Nat.reduceLT, true_or, or_true, false_or, or_false, false_and, true_and, and_false, and_true, not_false_eq_true, not_true_eq_false, eq_self, mA_A, mA_I, mI_A, mI_I, b01, b10, b01n, b10n, i10, i01, im0, ei_max, ei_min, ei_obj, n30, n20, b011, b101, orn, nor, dneg, dnle, dne, dcl, cat0, cat1, cat2, cat3, cat4, cM hS, nl_cj, tl, tf, hdm, t115, e10]
        · have f115 : (nI x = 115) = False := by rw [e115]; exact eq_false q1
          by_cases q2 : x = 113
          · have t8 : (nI cl = 8) = True := by rw [e8]; exact eq_true (by omega)
            have t113 : (nI x = 113) = True := eq_true (by rw [q2]; rfl)
            simp (maxDischargeDepth := 9) only [s195_0, s195_1, s195_4, s195_6, s195_13, s195_14, s195_15, s195_16, s195_26, s195_27, s195_30, s195_32, s195_35, s195_36, s195_39, s195_41, s195_44, s195_45, s195_48, s195_49, nl_sti, nl_str, nl_ci, nl_cr, nl_nil, ld_cons, ld_st, lr_some, li_some, lj_some, n2_nl, n2_ci, n2_cr, n2_nil, n2_sti, n2_str, tl_some, tl_none, cat_le, List.length_cons, List.length_nil, Option.bind_some, Option.bind_none, Option.map_some, cond_true, cond_false, Bool.and_true, Bool.true_and, reduceIte, Nat.reduceEqDiff, Nat.reduceAdd, Nat.reduceLeDiff, Nat.zero_add, Nat.zero_le, Nat.zero_ne_one, Nat.one_ne_zero, Nat.reduceLT, true_or, or_true, false_or, or_false, false_and, true_and, and_false, and_true, not_false_eq_true, not_true_eq_false, eq_self, mA_A, mA_I, mI_A, mI_I, b01, b10, b01n, b10n, i10, i01, im0, ei_max, ei_min, ei_obj, n30, n20, b011, b101, orn, nor, dneg, dnle, dne, dcl, cat0, cat1, cat2, cat3, cat4, gM11, pM11, cM, cM hS, hS, nl_cj, tl, tl2, tf, hdm, f115, t113, qS_11, t8]
          · have f113 : (nI x = 113) = False := by rw [e113]; exact eq_false q2
            simp (maxDischargeDepth := 9) only [s195_0, s195_1, s195_4, s195_6, s195_13, s195_14, s195_15, s195_16, s195_26, s195_27, s195_30, s195_32, s195_44, s195_45, s195_48, s195_49, nl_sti, nl_str, nl_ci, nl_cr, nl_nil, ld_cons, ld_st, lr_some, li_some, lj_some, n2_nl, n2_ci, n2_cr, n2_nil, n2_sti, n2_str, tl_some, tl_none, cat_le, List.length_cons, List.length_nil, Option.bind_some, Option.bind_none, Option.map_some, cond_true, cond_false, Bool.and_true, Bool.true_and, reduceIte, Nat.reduceEqDiff, Nat.reduceAdd, Nat.reduceLeDiff, Nat.zero_add, Nat.zero_le, Nat.zero_ne_one, Nat.one_ne_zero, Nat.reduceLT, true_or, or_true, false_or, or_false, false_and, true_and, and_false, and_true, not_false_eq_true, not_true_eq_false, eq_self, mA_A, mA_I, mI_A, mI_I, b01, b10, b01n, b10n, i10, i01, im0, ei_max, ei_min, ei_obj, n30, n20, b011, b101, orn, nor, dneg, dnle, dne, dcl, cat0, cat1, cat2, cat3, cat4, cM hS, nl_cj, tl, tl2, tf, hdm, f115, f113]
theorem clP_sk {ru : Bool} {cl : Nat} {gr gw : Nat → Int32} {q : Bool × Nat × (Nat → Int32) × (Nat → Int32) × List Nat} (h : clP T ru cl gr gw r = .ok q) (hcl : cl ≤ 8) : sk q.2.2.2.2 = q.2.2.2.2 ∧ Sx r q.2.2.2.2 ∧ q.2.2.2.2.length < r.length ∧ q.2.1 ≤ 8 := by
  unfold clP at h
  have h1 : Sx r (sk r) := (Sx.rf r).skp
  have hl := h1.le
  cases hsk : sk r with
  | nil => rw [hsk] at h; cases h
  | cons x r2 =>
    rw [hsk] at h h1 hl
    rw [List.length_cons] at hl
    simp only at h
    split at h
    · cases ho : itP T rls rlo rhi 0 6 0 gr r2 with
      | error p => rw [ho] at h; cases h
      | ok o =>
        rw [ho] at h
        have e := Except.ok.inj h
        subst e
        have hs := itP_suf _ _ _ _ _ ho
        exact ⟨itP_sk (ls := rls) (by decide) 6 0 _ _ o (by decide) (by decide) ho, h1.tl.tr hs, by have := hs.le; show o.2.length < r.length; omega, hcl⟩
    · split at h
      · rename_i hq
        cases ho : itP T wls wlo whi (4 * cl) 5 0 (wdf gw (4 * cl)) r2 with
        | error p => rw [ho] at h; cases h
        | ok o =>
          rw [ho] at h
          have e := Except.ok.inj h
          subst e
          have hs := itP_suf _ _ _ _ _ ho
          exact ⟨itP_sk (ls := wls) (by decide) 5 0 _ _ o (by decide) (by decide) ho, h1.tl.tr hs, by have := hs.le; show o.2.length < r.length; omega, by show cl + 1 ≤ 8; omega⟩
      · cases h
theorem M_row46 (hS : ModSh sh a) (hT : RTp W T) : ∀ (k : Nat) (ru : Bool) (cl : Nat) (gr gw : Nat → Int32) (r : List Nat) (L : aL), sk r = r → r.length ≤ k → cl ≤ 8 → Sx T r → e_n2 L → e_ld L 0 = some (.ref a) → e_ld L 1 = some (.int (if ru = true then 1 else 0)) → RRw (evp sc (d + 8 + 1 + 1 + 1 + 1) 196 46 L [] (mk sh (gl M a 15 (qS (mR (mR W 2 gr) 4 gw) (po T r) (-1) cl)))) sh M W a (cnP T k (ru, cl, gr, gw, r)) := fun k => by
  induction k with
  | zero =>
    intro ru cl gr gw r L hsk hk hcl hr hN h0 h1
    have : r = [] := List.length_eq_zero_iff.mp (by omega)
    subst this
    have hT2 : RTp (mR (mR W 2 gr) 4 gw) T := (hT.mR (by decide)).mR (by decide)
    have tl := M_look (sc := sc) (d := d + 8 + 1 + 1) (M := M) (f := -1) (t := cl) hS hT2 [] hr
    have z1 : ((-1 : Int32) = 59) = False := by decide
    refine ⟨po T [], ?_⟩
    rw [s196_46]
    simp (maxDischargeDepth := 9) only [s196_47, s196_50, s196_51, s196_54, s196_55, s196_58, s196_60, s196_82, s196_83, s196_86, s196_87, s196_90, s196_91, s196_94, s196_95, s196_102, nl_sti, nl_str, nl_ci, nl_cr, nl_nil, ld_cons, ld_st, lr_some, li_some, lj_some, n2_nl, n2_ci, n2_cr, n2_nil, n2_sti, n2_str, tl_some, tl_none, cat_le, List.length_cons, List.length_nil, Option.bind_some, Option.bind_none, Option.map_some, cond_true, cond_false, Bool.and_true, Bool.true_and, reduceIte, Nat.reduceEqDiff, Nat.reduceAdd, Nat.reduceLeDiff, Nat.zero_add, Nat.zero_le, Nat.zero_ne_one, Nat.one_ne_zero, Nat.reduceLT, true_or, or_true, false_or, or_false, false_and, true_and, and_false, and_true, not_false_eq_true, not_true_eq_false, eq_self, mA_A, mA_I, mI_A, mI_I, b01, b10, b01n, b10n, i10, i01, im0, ei_max, ei_min, ei_obj, n30, n20, b011, b101, orn, nor, dneg, dnle, dne, dcl, cat0, cat1, cat2, cat3, cat4, gM4, pM4, cM, cM hS, hS, hN, h0, h1, qS_4, tl, sk, hdm, z1]
  | succ k ih =>
    intro ru cl gr gw r L hsk hk hcl hr hN h0 h1
    have hT2 : RTp (mR (mR W 2 gr) 4 gw) T := (hT.mR (by decide)).mR (by decide)
    have tl := M_look (sc := sc) (d := d + 8 + 1 + 1) (M := M) (f := -1) (t := cl) hS hT2 r hr
    rw [hsk] at tl
    cases r with
    | nil =>
      have z1 : ((-1 : Int32) = 59) = False := by decide
      refine ⟨po T [], ?_⟩
      rw [s196_46]
      simp (maxDischargeDepth := 9) only [s196_47, s196_50, s196_51, s196_54, s196_55, s196_58, s196_60, s196_82, s196_83, s196_86, s196_87, s196_90, s196_91, s196_94, s196_95, s196_102, nl_sti, nl_str, nl_ci, nl_cr, nl_nil, ld_cons, ld_st, lr_some, li_some, lj_some, n2_nl, n2_ci, n2_cr, n2_nil, n2_sti, n2_str, tl_some, tl_none, cat_le, List.length_cons, List.length_nil, Option.bind_some, Option.bind_none, Option.map_some, cond_true, cond_false, Bool.and_true, Bool.true_and, reduceIte, Nat.reduceEqDiff, Nat.reduceAdd, Nat.reduceLeDiff, Nat.zero_add, Nat.zero_le, Nat.zero_ne_one, Nat.one_ne_zero, Nat.reduceLT, true_or, or_true, false_or, or_false, false_and, true_and, and_false, and_true, not_false_eq_true, not_true_eq_false, eq_self, mA_A, mA_I, mI_A, mI_I, b01, b10, b01n, b10n, i10, i01, im0, ei_max, ei_min, ei_obj, n30, n20, b011, b101, orn, nor, dneg, dnle, dne, dcl, cat0, cat1, cat2, cat3, cat4, gM4, pM4, cM, cM hS, hS, hN, h0, h1, qS_4, tl, hdm, z1]
    | cons y r4 =>
      rw [List.length_cons] at hk
      obtain ⟨-, hx0, hx⟩ := hT.2.2 _ _ hr.get
      have e59 : (nI y = 59) = (y = 59) := propext (nI_eq (b := 59) (by omega) (by decide))
      show RRw _ sh M W a (if y = 59 then rwP T (k + 1) ru cl gr gw r4 else .error (po T (y :: r4)))
      by_cases qy : y = 59
      · have t59 : (nI y = 59) = True := eq_true (by rw [qy]; rfl)
        rw [if_pos qy, rwP_cl]
        have tc := M_clause (sc := sc) (d := d) (M := M) (ru := ru) (gr := gr) (gw := gw) hS hT hcl hr.tl
        have tp : ∀ b M', evp sc (d + 8 + 1 + 1 + 1) 195 0 [(0, .ref a), (1, .int (if ru = true then 1 else 0))] [] (mk sh (gl M a 15 (qS (mR (mR W 2 gr) 4 gw) (po T r4) (-1) cl))) = some (some (.int b), M') → evp sc (d + 8 + 1 + 1 + 1 + 1) 196 46 L [] (mk sh (gl M a 15 (qS (mR (mR W 2 gr) 4 gw) (po T (y :: r4)) (-1) cl))) = evp sc (d + 8 + 1 + 1 + 1 + 1) 196 46 (e_st1 L 1 (.int b)) [] M' := fun b M' tt => by
          rw [s196_46]
          simp (maxDischargeDepth := 9) only [s196_47, s196_50, s196_51, s196_54, s196_55, s196_58, s196_60, s196_63, s196_64r, s196_65, s196_68, s196_69, s196_70, s196_73, s196_74, s196_75, s196_78, s196_79, nl_sti, nl_str, nl_ci, nl_cr, nl_nil, ld_cons, ld_st, lr_some, li_some, lj_some, n2_nl, n2_ci, n2_cr, n2_nil, n2_sti, n2_str, tl_some, tl_none, cat_le, List.length_cons, List.length_nil, Option.bind_some, Option.bind_none, Option.map_some, cond_true, cond_false, Bool.and_true, Bool.true_and, reduceIte, Nat.reduceEqDiff, Nat.reduceAdd, Nat.reduceLeDiff, Nat.zero_add, Nat.zero_le, Nat.zero_ne_one, Nat.one_ne_zero, Nat.reduceLT, true_or, or_true, false_or, or_false, false_and, true_and, and_false, and_true, not_false_eq_true, not_true_eq_false, eq_self, mA_A, mA_I, mI_A, mI_I, b01, b10, b01n, b10n, i10, i01, im0, ei_max, ei_min, ei_obj, n30, n20, b011, b101, orn, nor, dneg, dnle, dne, dcl, cat0, cat1, cat2, cat3, cat4, gM3, pM3, gM4, pM4, cM, cM hS, hS, hN, h0, h1, qS_3, qS_4, qS_w3, tl, hdm, t59, nI_1, hr.po1, tt]
        cases ho : clP T ru cl gr gw r4 with
        | error p =>
          rw [ho] at tc
          obtain ⟨gr', gw', p', t', b, tt⟩ := tc
          refine ⟨gr', gw', p', t', ?_⟩
          have cf : (nI p = -1) = False := eq_false (fun z => ?_)
          · rw [tp _ _ tt, s196_46]
            simp (maxDischargeDepth := 9) only [s196_47, s196_50, s196_51, s196_82, s196_83, s196_86, s196_87, s196_102, nl_sti, nl_str, nl_ci, nl_cr, nl_nil, ld_cons, ld_st, lr_some, li_some, lj_some, n2_nl, n2_ci, n2_cr, n2_nil, n2_sti, n2_str, tl_some, tl_none, cat_le, List.length_cons, List.length_nil, Option.bind_some, Option.bind_none, Option.map_some, cond_true, cond_false, Bool.and_true, Bool.true_and, reduceIte, Nat.reduceEqDiff, Nat.reduceAdd, Nat.reduceLeDiff, Nat.zero_add, Nat.zero_le, Nat.zero_ne_one, Nat.one_ne_zero, Nat.reduceLT, true_or, or_true, false_or, or_false, false_and, true_and, and_false, and_true, not_false_eq_true, not_true_eq_false, eq_self, mA_A, mA_I, mI_A, mI_I, b01, b10, b01n, b10n, i10, i01, im0, ei_max, ei_min, ei_obj, n30, n20, b011, b101, orn, nor, dneg, dnle, dne, dcl, cat0, cat1, cat2, cat3, cat4, gM4, pM4, cM, hS, hN, h0, h1, qS_4, cf]
          · exact absurd z (nI_nm1 (clP_p ho hT.2.1 hr.tl))
        | ok q =>
          obtain ⟨ru', cl', gr', gw', r'⟩ := q
          rw [ho] at tc
          obtain ⟨k1, k2, k3, k4⟩ := clP_sk ho hcl
          have k1 : sk r' = r' := k1
          have k3 : r'.length < r4.length := k3
          have tt : _ = some (some (Value.int (if ru' = true then 1 else 0)), mk sh (gl M a 15 (qS (mR (mR W 2 gr') 4 gw') (po T r') (-1) cl'))) := tc
          rw [tp _ _ tt]
          exact ih ru' cl' gr' gw' r' (e_st1 L 1 (.int (if ru' = true then 1 else 0))) k1 (by omega) k4 (hr.tl.tr k2) (by simp (maxDischargeDepth := 9) only [nl_sti, nl_str, nl_ci, nl_cr, nl_nil, ld_cons, ld_st, lr_some, li_some, lj_some, n2_nl, n2_ci, n2_cr, n2_nil, n2_sti, n2_str, tl_some, tl_none, cat_le, List.length_cons, List.length_nil, Option.bind_some, Option.bind_none, Option.map_some, cond_true, cond_false, Bool.and_true, Bool.true_and, reduceIte, Nat.reduceEqDiff, Nat.reduceAdd, Nat.reduceLeDiff, Nat.zero_add, Nat.zero_le, Nat.zero_ne_one, Nat.one_ne_zero, Nat.reduceLT, true_or, or_true, false_or, or_false, false_and, true_and, and_false, and_true, not_false_eq_true, not_true_eq_false, eq_self, mA_A, mA_I, mI_A, mI_I, b01, b10, b01n, b10n, i10, i01, im0, ei_max, ei_min, ei_obj, n30, n20, hN]) (by simp only [nl_sti, nl_str, nl_ci, nl_cr, nl_nil, ld_cons, ld_st, lr_some, li_some, lj_some, n2_nl, n2_ci, n2_cr, n2_nil, n2_sti, n2_str, tl_some, tl_none, cat_le, List.length_cons, List.length_nil, Option.bind_some, Option.bind_none, Option.map_some, cond_true, cond_false, Bool.and_true, Bool.true_and, reduceIte, Nat.reduceEqDiff, Nat.reduceAdd, Nat.reduceLeDiff, Nat.zero_add, Nat.zero_le, Nat.zero_ne_one, Nat.one_ne_zero, Nat.reduceLT, true_or, or_true, false_or, or_false, false_and, true_and, and_false, and_true, not_false_eq_true, not_true_eq_false, eq_self, mA_A, mA_I, mI_A, mI_I, b01, b10, b01n, b10n, i10, i01, im0, ei_max, ei_min, ei_obj, n30, n20, h0]) (by simp only [nl_sti, nl_str, nl_ci, nl_cr, nl_nil, ld_cons, ld_st, lr_some, li_some, lj_some, n2_nl, n2_ci, n2_cr, n2_nil, n2_sti, n2_str, tl_some, tl_none, cat_le, List.length_cons, List.length_nil, Option.bind_some, Option.bind_none, Option.map_some, cond_true, cond_false, Bool.and_true, Bool.true_and, reduceIte, Nat.reduceEqDiff, Nat.reduceAdd, Nat.reduceLeDiff, Nat.zero_add, Nat.zero_le, Nat.zero_ne_one, Nat.one_ne_zero, Nat.reduceLT, true_or, or_true, false_or, or_false, false_and, true_and, and_false, and_true, not_false_eq_true, not_true_eq_false, eq_self, mA_A, mA_I, mI_A, mI_I, b01, b10, b01n, b10n, i10, i01, im0, ei_max, ei_min, ei_obj, n30, n20])
      · have f59 : (nI y = 59) = False := by rw [e59]; exact eq_false qy
        have fm1 : (nI y = -1) = False := eq_false (nI_nm1 (by omega))
        rw [if_neg qy]
        have tf := M_fails (sc := sc) (d := d + 8 + 1 + 1 + 1) (M := M) (W := mR (mR W 2 gr) 4 gw) (f := -1) (t := cl) (p := po T (y :: r4)) hS
        rw [if_pos rfl] at tf
        refine ⟨gr, gw, po T (y :: r4), cl, ?_⟩
        rw [s196_46]
        simp (maxDischargeDepth := 9) only [s196_47, s196_50, s196_51, s196_54, s196_55, s196_58, s196_60, s196_82, s196_83, s196_86, s196_87, s196_90, s196_91, s196_94, s196_95, s196_98, s196_99, s196_102, nl_sti, nl_str, nl_ci, nl_cr, nl_nil, ld_cons, ld_st, lr_some, li_some, lj_some, n2_nl, n2_ci, n2_cr, n2_nil, n2_sti, n2_str, tl_some, tl_none, cat_le, List.length_cons, List.length_nil, Option.bind_some, Option.bind_none, Option.map_some, cond_true, cond_false, Bool.and_true, Bool.true_and, reduceIte, Nat.reduceEqDiff, Nat.reduceAdd, Nat.reduceLeDiff, Nat.zero_add, Nat.zero_le, Nat.zero_ne_one, Nat.one_ne_zero, Nat.reduceLT, true_or, or_true, false_or, or_false, false_and, true_and, and_false, and_true, not_false_eq_true, not_true_eq_false, eq_self, mA_A, mA_I, mI_A, mI_I, b01, b10, b01n, b10n, i10, i01, im0, ei_max, ei_min, ei_obj, n30, n20, b011, b101, orn, nor, dneg, dnle, dne, dcl, cat0, cat1, cat2, cat3, cat4, gM4, pM4, cM, cM hS, hS, hN, h0, h1, qS_4, tl, hdm, f59, fm1, tf]
end
