/-! FAULT: both -/
theorem wr_get : ∀ (l : List Int32) (g : Nat → Int32) (b j : Nat), j < l.length → wr g b l (b + j) = l.getD j 0
  | [], _, _, _, h => by cases h
  | v :: l, g, b, 0, h => by
    show wr (up g b v) (b + 1) l b = v
    rw [wr_o l _ (b + 1) b (by omega), up_s]
  | v :: l, g, b, j + 1, h => by
    rw [List.length_cons] at h
    show wr (up g b v) (b + 1) l (b + (j + 1)) = l.getD j 0
    rw [show b + (j + 1) = b + 1 + j by omega]
    exact wr_get l _ (b + 1) j (by omega)
theorem scP_k {T : List Nat} : ∀ (k i : Nat) (r : List Nat) (l : List Int32), scP T k i r = .ok l → ∃ n, l.length = 5 * n ∧ ∀ j, j < n → ∃ kd, kd < 7 ∧ l.getD (5 * j) 0 = nI kd
  | 0, i, r, l, h => by cases h
  | k + 1, i, r, l, h => by
    rw [scP] at h
    cases ho : stP T r with
    | error p => rw [ho] at h; cases h
    | ok q =>
      obtain ⟨l5, r1⟩ := q
      rw [ho] at h
      obtain ⟨s1, s2, s3, kd, l', s4, s5⟩ := stP_suf ho
      have s2 : l5.length = 5 := s2
      have s5 : l5 = nI kd :: l' := s5
      simp only at h
      cases e : sk r1 with
      | nil =>
        rw [e] at h
        have e2 := Except.ok.inj h
        subst e2
        refine ⟨1, by omega, fun j hj => ⟨kd, s4, ?_⟩⟩
        have : j = 0 := by omega
        subst this
        rw [s5]
        rfl
      | cons y r2 =>
        rw [e] at h
        simp only at h
        split at h
        · cases ho2 : scP T k (i + 1) r2 with
          | error p => rw [ho2] at h; cases h
          | ok l2 =>
            rw [ho2] at h
            have e2 := Except.ok.inj h
            subst e2
            obtain ⟨n, n1, n2⟩ := scP_k k (i + 1) r2 l2 ho2
            refine ⟨n + 1, by rw [List.length_append, s2, n1]; omega, fun j hj => ?_⟩
            by_cases q : j = 0
            · subst q
              refine ⟨kd, s4, ?_⟩
              rw [s5]
              rfl
            · obtain ⟨k2, k3, k4⟩ := n2 (j - 1) (by omega)
              refine ⟨k2, k3, ?_⟩
              rw [← k4, List.getD_eq_getElem?_getD, List.getD_eq_getElem?_getD, List.getElem?_append_right (by rw [s2]; omega), s2, show 5 * j - 5 = 5 * (j - 1) by omega]
        · cases h
theorem nI_any (x : Int32) : ∃ t, x = nI t := ⟨x.toBitVec.toNat, by
  apply Int32.toBitVec_inj.mp
  show x.toBitVec = BitVec.ofNat 32 x.toBitVec.toNat
  rw [BitVec.ofNat_toNat, BitVec.setWidth_eq]⟩
theorem scP_p {T : List Nat} : ∀ (k i : Nat) (r : List Nat) (p : Nat), scP T k i r = .error p → p ≤ T.length
  | 0, i, r, p, h => by rw [← Except.error.inj h]; exact Nat.sub_le _ _
  | k + 1, i, r, p, h => by
    rw [scP] at h
    cases ho : stP T r with
    | error p' => rw [ho] at h; rw [← Except.error.inj h]; exact stP_p ho
    | ok q =>
      rw [ho] at h
      simp only at h
      cases e : sk q.2 with
      | nil => rw [e] at h; cases h
      | cons y r2 =>
        rw [e] at h
        simp only at h
        split at h
        · cases ho2 : scP T k (i + 1) r2 with
          | error p' => rw [ho2] at h; rw [← Except.error.inj h]; exact scP_p k _ _ p' ho2
          | ok l2 => rw [ho2] at h; cases h
        · rw [← Except.error.inj h]; exact Nat.sub_le _ _
theorem rwP_p {T : List Nat} (hT : T.length ≤ 240) : ∀ (k : Nat) (ru : Bool) (cl : Nat) (gr gw : Nat → Int32) (r : List Nat) (p : Nat), Sx T r → cl ≤ 8 → rwP T k ru cl gr gw r = .error p → p < 2 ^ 31
  | 0, ru, cl, gr, gw, r, p, hr, hc, h => by
    have : po T r ≤ T.length := Nat.sub_le _ _
    have e := Except.error.inj h
    omega
  | k + 1, ru, cl, gr, gw, r, p, hr, hc, h => by
    rw [rwP_cl] at h
    cases ho : clP T ru cl gr gw r with
    | error p' =>
      rw [ho] at h
      rw [← Except.error.inj h]
      exact clP_p ho hT hr
    | ok q =>
      obtain ⟨ru', cl', gr', gw', r'⟩ := q
      rw [ho] at h
      obtain ⟨k1, k2, k3, k4⟩ := clP_sk ho hc
      have h : (match r' with
        | [] => .ok (gr', gw', cl')
        | y :: r4 => if y = 59 then rwP T k ru' cl' gr' gw' r4 else .error (po T (y :: r4))) = Except.error p := h
      have k2 : Sx r r' := k2
      cases r' with
      | nil => cases h
      | cons y r4 =>
        simp only at h
        split at h
        · exact rwP_p hT k ru' cl' gr' gw' r4 p (hr.tr k2).tl k4 h
        · have : po T (y :: r4) ≤ T.length := Nat.sub_le _ _
          have e := Except.error.inj h
          omega
section
variable {sc sc2 : aS} {d d2 : Nat} {sh sh2 : List sE} {M M2 W X : aM} {a kk : Nat} {T r : List Nat} {v u f x : Int32} {c t p : Nat} {h : aH} {g : Nat → Int32}
theorem qS_in (W : aM) {t : Nat} (ht : W.1 0 11 = nI t) (p : Nat) (f : Int32) : mI (mI W 0 3 (nI p)) 0 4 f = qS W p f t := by
  unfold qS
  rw [show nI t = (mI (mI W 0 3 (nI p)) 0 4 f).1 0 11 by rw [mI_At, if_neg (by decide), mI_At, if_neg (by decide), ht], mI_self]
theorem M_w2qq (hS : ModSh sh a) {j : Nat} (hj : j < 5) : e_is (mk sh (gl M a 15 (qS (mR X 2 g) p f t))) (a + 2) (nI j) u = some (mk sh (gl M a 15 (qS (mR X 2 (up g j u)) p f t))) := by
  rw [M_w2 hS _ j u hj, ← mA_mR]
  rfl
theorem M_row (hS : ModSh sh a) (hT : RTp W T) : RRw (evp sc (d + 8 + 1 + 1 + 1 + 1) 196 0 [(0, .ref a)] [] (mk sh (gl M a 15 (qS W 0 (-1) t)))) sh M W a (rwP T 241 false 0 (rdf (W.2.1 2)) (W.2.1 4) T) := by
  have e4 : mR (mR W 2 (rdf (W.2.1 2))) 4 (W.2.1 4) = mR W 2 (rdf (W.2.1 2)) := by
    have := mR_self (mR W 2 (rdf (W.2.1 2))) 4
    rw [mR_o (by decide)] at this
    exact this
  have tc := M_clause (sc := sc) (d := d) (M := M) (ru := false) (cl := 0) (gr := rdf (W.2.1 2)) (gw := W.2.1 4) hS hT (by decide) (Sx.rf T)
  rw [e4, po_T] at tc
  have w0 := fun g u t => M_w2qq (M := M) (X := W) (p := 0) (f := -1) (t := t) (g := g) (u := u) hS (show 0 < 5 by decide)
  have w1 := fun g u t => M_w2qq (M := M) (X := W) (p := 0) (f := -1) (t := t) (g := g) (u := u) hS (show 1 < 5 by decide)
  have w2 := fun g u t => M_w2qq (M := M) (X := W) (p := 0) (f := -1) (t := t) (g := g) (u := u) hS (show 2 < 5 by decide)
  have w3 := fun g u t => M_w2qq (M := M) (X := W) (p := 0) (f := -1) (t := t) (g := g) (u := u) hS (show 3 < 5 by decide)
  have w4 := fun g u t => M_w2qq (M := M) (X := W) (p := 0) (f := -1) (t := t) (g := g) (u := u) hS (show 4 < 5 by decide)
  rw [show nI 0 = (0 : Int32) from rfl] at w0
  rw [show nI 1 = (1 : Int32) from rfl] at w1
  rw [show nI 2 = (2 : Int32) from rfl] at w2
  rw [show nI 3 = (3 : Int32) from rfl] at w3
  rw [show nI 4 = (4 : Int32) from rfl] at w4
  have q11 : ∀ X t, mI (qS X 0 (-1) t) 0 11 0 = qS X 0 (-1) 0 := fun X t => qS_w11 X 0 (-1) t 0
  have tp : ∀ b M', evp sc (d + 8 + 1 + 1 + 1) 195 0 [(0, .ref a), (1, .int 0)] [] (mk sh (gl M a 15 (qS (mR W 2 (rdf (W.2.1 2))) 0 (-1) 0))) = some (some (.int b), M') → evp sc (d + 8 + 1 + 1 + 1 + 1) 196 0 [(0, .ref a)] [] (mk sh (gl M a 15 (qS W 0 (-1) t))) = evp sc (d + 8 + 1 + 1 + 1 + 1) 196 46 (e_st1 [(0, .ref a)] 1 (.int b)) [] M' := fun b M' tt => by
    have eW : W = mR W 2 (W.2.1 2) := (mR_self W 2).symm
    conv => lhs; rw [eW]
    simp (maxDischargeDepth := 9) only [s196_0, s196_1, s196_4, s196_5, s196_6, s196_7, s196_8, s196_11, s196_12, s196_13, s196_14, s196_15, s196_18, s196_19, s196_20, s196_21, s196_22, s196_25, s196_26, s196_27, s196_28, s196_29, s196_32, s196_33, s196_34, s196_35, s196_36, s196_37, s196_40, s196_41, s196_42, s196_45, nl_sti, nl_str, nl_ci, nl_cr, nl_nil, ld_cons, ld_st, lr_some, li_some, lj_some, n2_nl, n2_ci, n2_cr, n2_nil, n2_sti, n2_str, tl_some, tl_none, cat_le, List.length_cons, List.length_nil, Option.bind_some, Option.bind_none, Option.map_some, cond_true, cond_false, Bool.and_true, Bool.true_and, reduceIte, Nat.reduceEqDiff, Nat.reduceAdd, Nat.reduceLeDiff, Nat.zero_add, Nat.zero_le, Nat.zero_ne_one, Nat.one_ne_zero, Nat.reduceLT, true_or, or_true, false_or, or_false, false_and, true_and, and_false, and_true, not_false_eq_true, not_true_eq_false, eq_self, mA_A, mA_I, mI_A, mI_I, b01, b10, b01n, b10n, i10, i01, im0, ei_max, ei_min, ei_obj, n30, n20, b011, b101, orn, nor, dneg, dnle, dne, dcl, cat0, cat1, cat2, cat3, cat4, gM5, gM11, pM11, cM, cM hS, hS, nl_cj, w0, w1, w2, w3, w4, q11, show up (up (up (up (up (W.2.1 2) 0 4) 1 0) 2 0) 3 1) 4 0 = rdf (W.2.1 2) from rfl, tt]
  rw [rwP_cl]
  cases ho : clP T false 0 (rdf (W.2.1 2)) (W.2.1 4) T with
  | error p =>
    rw [ho] at tc
    obtain ⟨gr', gw', p', t', b, tt⟩ := tc
    have cf : (nI p = -1) = False := eq_false (nI_nm1 (clP_p ho hT.2.1 (Sx.rf T)))
    refine ⟨gr', gw', p', t', ?_⟩
    rw [tp _ _ tt, s196_46]
    simp (maxDischargeDepth := 9) only [s196_47, s196_50, s196_51, s196_82, s196_83, s196_86, s196_87, s196_102, nl_sti, nl_str, nl_ci, nl_cr, nl_nil, ld_cons, ld_st, lr_some, li_some, lj_some, n2_nl, n2_ci, n2_cr, n2_nil, n2_sti, n2_str, tl_some, tl_none, cat_le, List.length_cons, List.length_nil, Option.bind_some, Option.bind_none, Option.map_some, cond_true, cond_false, Bool.and_true, Bool.true_and, reduceIte, Nat.reduceEqDiff, Nat.reduceAdd, Nat.reduceLeDiff, Nat.zero_add, Nat.zero_le, Nat.zero_ne_one, Nat.one_ne_zero, Nat.reduceLT, true_or, or_true, false_or, or_false, false_and, true_and, and_false, and_true, not_false_eq_true, not_true_eq_false, eq_self, mA_A, mA_I, mI_A, mI_I, b01, b10, b01n, b10n, i10, i01, im0, ei_max, ei_min, ei_obj, n30, n20, b011, b101, orn, nor, dneg, dnle, dne, dcl, cat0, cat1, cat2, cat3, cat4, gM4, pM4, cM, hS, qS_4, cf, nl_cj]
  | ok q =>
    obtain ⟨ru', cl', gr', gw', r'⟩ := q
    rw [ho] at tc
    obtain ⟨k1, k2, k3, k4⟩ := clP_sk ho (by decide)
    have k1 : sk r' = r' := k1
    have k2 : Sx T r' := k2
    have k3 : r'.length < T.length := k3
    have tt : _ = some (some (Value.int (if ru' = true then 1 else 0)), mk sh (gl M a 15 (qS (mR (mR W 2 gr') 4 gw') (po T r') (-1) cl'))) := tc
    rw [tp _ _ tt]
    exact M_row46 hS hT 240 ru' cl' gr' gw' r' (e_st1 [(0, .ref a)] 1 (.int (if ru' = true then 1 else 0))) k1 (by have := hT.2.1; omega) k4 k2 (by simp (maxDischargeDepth := 9) only [nl_sti, nl_str, nl_ci, nl_cr, nl_nil, ld_cons, ld_st, lr_some, li_some, lj_some, n2_nl, n2_ci, n2_cr, n2_nil, n2_sti, n2_str, tl_some, tl_none, cat_le, List.length_cons, List.length_nil, Option.bind_some, Option.bind_none, Option.map_some, cond_true, cond_false, Bool.and_true, Bool.true_and, reduceIte, Nat.reduceEqDiff, Nat.reduceAdd, Nat.reduceLeDiff, Nat.zero_add, Nat.zero_le, Nat.zero_ne_one, Nat.one_ne_zero, Nat.reduceLT, true_or, or_true, false_or, or_false, false_and, true_and, and_false, and_true, not_false_eq_true, not_true_eq_false, eq_self, mA_A, mA_I, mI_A, mI_I, b01, b10, b01n, b10n, i10, i01, im0, ei_max, ei_min, ei_obj, n30, n20, nl_cj]) (by simp only [nl_sti, nl_str, nl_ci, nl_cr, nl_nil, ld_cons, ld_st, lr_some, li_some, lj_some, n2_nl, n2_ci, n2_cr, n2_nil, n2_sti, n2_str, tl_some, tl_none, cat_le, List.length_cons, List.length_nil, Option.bind_some, Option.bind_none, Option.map_some, cond_true, cond_false, Bool.and_true, Bool.true_and, reduceIte, Nat.reduceEqDiff, Nat.reduceAdd, Nat.reduceLeDiff, Nat.zero_add, Nat.zero_le, Nat.zero_ne_one, Nat.one_ne_zero, Nat.reduceLT, true_or, or_true, false_or, or_false, false_and, true_and, and_false, and_true, not_false_eq_true, not_true_eq_false, eq_self, mA_A, mA_I, mI_A, mI_I, b01, b10, b01n, b10n, i10, i01, im0, ei_max, ei_min, ei_obj, n30, n20]) (by simp only [nl_sti, nl_str, nl_ci, nl_cr, nl_nil, ld_cons, ld_st, lr_some, li_some, lj_some, n2_nl, n2_ci, n2_cr, n2_nil, n2_sti, n2_str, tl_some, tl_none, cat_le, List.length_cons, List.length_nil, Option.bind_some, Option.bind_none, Option.map_some, cond_true, cond_false, Bool.and_true, Bool.true_and, reduceIte, Nat.reduceEqDiff, Nat.reduceAdd, Nat.reduceLeDiff, Nat.zero_add, Nat.zero_le, Nat.zero_ne_one, Nat.one_ne_zero, Nat.reduceLT, true_or, or_true, false_or, or_false, false_and, true_and, and_false, and_true, not_false_eq_true, not_true_eq_false, eq_self, mA_A, mA_I, mI_A, mI_I, b01, b10, b01n, b10n, i10, i01, im0, ei_max, ei_min, ei_obj, n30, n20])
theorem M_script (hS : ModSh sh a) (hT : RTp W T) : RSc (evp sc (d + 8 + 1 + 1 + 1) 199 0 [(0, .ref a)] [] (mk sh (gl M a 15 (qS W 0 (-1) t)))) sh M W a t (W.2.1 6) 0 (scP T 16 0 T) := by
  have t2 := M_sc_loop (sc := sc) (d := d) (M := M) (t := t) hS hT 16 0 (W.2.1 6) T (e_st1 (e_st1 [(0, .ref a)] 1 (.int 0)) 2 (.int 1)) (by omega) (by omega) (Sx.rf T) (fun _ _ => rfl) (by simp (maxDischargeDepth := 9) only [nl_sti, nl_str, nl_ci, nl_cr, nl_nil, ld_cons, ld_st, lr_some, li_some, lj_some, n2_nl, n2_ci, n2_cr, n2_nil, n2_sti, n2_str, tl_some, tl_none, cat_le, List.length_cons, List.length_nil, Option.bind_some, Option.bind_none, Option.map_some, cond_true, cond_false, Bool.and_true, Bool.true_and, reduceIte, Nat.reduceEqDiff, Nat.reduceAdd, Nat.reduceLeDiff, Nat.zero_add, Nat.zero_le, Nat.zero_ne_one, Nat.one_ne_zero, Nat.reduceLT, true_or, or_true, false_or, or_false, false_and, true_and, and_false, and_true, not_false_eq_true, not_true_eq_false, eq_self, mA_A, mA_I, mI_A, mI_I, b01, b10, b01n, b10n, i10, i01, im0, ei_max, ei_min, ei_obj, n30, n20, nl_cj]) (by simp only [nl_sti, nl_str, nl_ci, nl_cr, nl_nil, ld_cons, ld_st, lr_some, li_some, lj_some, n2_nl, n2_ci, n2_cr, n2_nil, n2_sti, n2_str, tl_some, tl_none, cat_le, List.length_cons, List.length_nil, Option.bind_some, Option.bind_none, Option.map_some, cond_true, cond_false, Bool.and_true, Bool.true_and, reduceIte, Nat.reduceEqDiff, Nat.reduceAdd, Nat.reduceLeDiff, Nat.zero_add, Nat.zero_le, Nat.zero_ne_one, Nat.one_ne_zero, Nat.reduceLT, true_or, or_true, false_or, or_false, false_and, true_and, and_false, and_true, not_false_eq_true, not_true_eq_false, eq_self, mA_A, mA_I, mI_A, mI_I, b01, b10, b01n, b10n, i10, i01, im0, ei_max, ei_min, ei_obj, n30, n20]) (by simp only [nl_sti, nl_str, nl_ci, nl_cr, nl_nil, ld_cons, ld_st, lr_some, li_some, lj_some, n2_nl, n2_ci, n2_cr, n2_nil, n2_sti, n2_str, tl_some, tl_none, cat_le, List.length_cons, List.length_nil, Option.bind_some, Option.bind_none, Option.map_some, cond_true, cond_false, Bool.and_true, Bool.true_and, reduceIte, Nat.reduceEqDiff, Nat.reduceAdd, Nat.reduceLeDiff, Nat.zero_add, Nat.zero_le, Nat.zero_ne_one, Nat.one_ne_zero, Nat.reduceLT, true_or, or_true, false_or, or_false, false_and, true_and, and_false, and_true, not_false_eq_true, not_true_eq_false, eq_self, mA_A, mA_I, mI_A, mI_I, b01, b10, b01n, b10n, i10, i01, im0, ei_max, ei_min, ei_obj, n30, n20, nz0]) (by simp only [nl_sti, nl_str, nl_ci, nl_cr, nl_nil, ld_cons, ld_st, lr_some, li_some, lj_some, n2_nl, n2_ci, n2_cr, n2_nil, n2_sti, n2_str, tl_some, tl_none, cat_le, List.length_cons, List.length_nil, Option.bind_some, Option.bind_none, Option.map_some, cond_true, cond_false, Bool.and_true, Bool.true_and, reduceIte, Nat.reduceEqDiff, Nat.reduceAdd, Nat.reduceLeDiff, Nat.zero_add, Nat.zero_le, Nat.zero_ne_one, Nat.one_ne_zero, Nat.reduceLT, true_or, or_true, false_or, or_false, false_and, true_and, and_false, and_true, not_false_eq_true, not_true_eq_false, eq_self, mA_A, mA_I, mI_A, mI_I, b01, b10, b01n, b10n, i10, i01, im0, ei_max, ei_min, ei_obj, n30, n20])
  rw [mR_self, po_T] at t2
  simp (maxDischargeDepth := 9) only [s199_0, s199_1, s199_2, s199_3, nl_sti, nl_str, nl_ci, nl_cr, nl_nil, ld_cons, ld_st, lr_some, li_some, lj_some, n2_nl, n2_ci, n2_cr, n2_nil, n2_sti, n2_str, tl_some, tl_none, cat_le, List.length_cons, List.length_nil, Option.bind_some, Option.bind_none, Option.map_some, cond_true, cond_false, Bool.and_true, Bool.true_and, reduceIte, Nat.reduceEqDiff, Nat.reduceAdd, Nat.reduceLeDiff, Nat.zero_add, Nat.zero_le, Nat.zero_ne_one, Nat.one_ne_zero, Nat.reduceLT, true_or, or_true, false_or, or_false, false_and, true_and, and_false, and_true, not_false_eq_true, not_true_eq_false, eq_self, mA_A, mA_I, mI_A, mI_I, b01, b10, b01n, b10n, i10, i01, im0, ei_max, ei_min, ei_obj, n30, n20, b011, b101, orn, nor, dneg, dnle, dne, dcl, cat0, cat1, cat2, cat3, cat4, nl_cj]
  exact t2
end
