/-! A ROW as a text: the pure reader, the class -/
def rls : List Nat := [110, 100, 98, 108, 101]
def wls : List Nat := [102, 116, 108, 109]
def rlo (i : Nat) : Nat := [2, 0, 0, 1, 0].getD i 0
def rhi (i : Nat) : Nat := [8, 3, 9, 3, 255].getD i 0
def wlo (i : Nat) : Nat := [0, 0, 0, 1].getD i 0
def whi (i : Nat) : Nat := [7, 7, 2, 9].getD i 0
def rdf (g : Nat → Int32) : Nat → Int32 := up (up (up (up (up g 0 4) 1 0) 2 0) 3 1) 4 0
def wdf (g : Nat → Int32) (b : Nat) : Nat → Int32 := up (up (up (up g b 0) (b + 1) 1) (b + 2) 0) (b + 3) 1
theorem rdf_eq (g : Nat → Int32) : va_cpy (fun j => ([4, 0, 0, 1, 0] : List Int32).getD j 0) g 0 0 5 = rdf g := by
  funext k
  unfold rdf va_cpy up
  rcases (show k = 0 ∨ k = 1 ∨ k = 2 ∨ k = 3 ∨ k = 4 ∨ 5 ≤ k by omega) with rfl | rfl | rfl | rfl | rfl | h
  · rfl
  · rfl
  · rfl
  · rfl
  · rfl
  · rw [if_neg (by omega), if_neg (by omega), if_neg (by omega), if_neg (by omega), if_neg (by omega), if_neg (by omega)]
theorem wdf_eq (g : Nat → Int32) (b : Nat) : va_cpy (fun j => ([0, 1, 0, 1] : List Int32).getD j 0) g 0 b 4 = wdf g b := by
  funext k
  unfold wdf va_cpy up
  by_cases h : b ≤ k ∧ k < b + 4
  · rw [if_pos h]
    obtain ⟨j, rfl⟩ : ∃ j, k = b + j := ⟨k - b, by omega⟩
    rw [show 0 + (b + j - b) = j by omega]
    rcases (show j = 0 ∨ j = 1 ∨ j = 2 ∨ j = 3 by omega) with rfl | rfl | rfl | rfl
    · rw [if_neg (by omega), if_neg (by omega), if_neg (by omega), if_pos (by omega)]
      rfl
    · rw [if_neg (by omega), if_neg (by omega), if_pos (by omega)]
      rfl
    · rw [if_neg (by omega), if_pos (by omega)]
      rfl
    · rw [if_pos (by omega)]
      rfl
  · rw [if_neg h, if_neg (by omega), if_neg (by omega), if_neg (by omega), if_neg (by omega)]
def rwP (T : List Nat) : Nat → Bool → Nat → (Nat → Int32) → (Nat → Int32) → List Nat → Except Nat ((Nat → Int32) × (Nat → Int32) × Nat)
  | 0, _, _, _, _, r => .error (po T r)
  | k + 1, ru, cl, gr, gw, r => match sk r with
    | [] => .error (po T [])
    | x :: r2 =>
      if x = 115 ∧ ru = false then
        (match itP T rls rlo rhi 0 6 0 gr r2 with
        | .error p => .error p
        | .ok q => match q.2 with
          | [] => .ok (q.1, gw, cl)
          | y :: r4 => if y = 59 then rwP T k true cl q.1 gw r4 else .error (po T (y :: r4)))
      else if x = 113 ∧ cl < 8 then
        (match itP T wls wlo whi (4 * cl) 5 0 (wdf gw (4 * cl)) r2 with
        | .error p => .error p
        | .ok q => match q.2 with
          | [] => .ok (gr, q.1, cl + 1)
          | y :: r4 => if y = 59 then rwP T k ru (cl + 1) gr q.1 r4 else .error (po T (y :: r4)))
      else .error (po T (x :: r2))
theorem Sx.tr {A B C : List Nat} (h1 : Sx A B) (h2 : Sx B C) : Sx A C := by
  obtain ⟨p, e⟩ := h1
  obtain ⟨q, e2⟩ := h2
  exact ⟨p ++ q, by rw [e, e2, List.append_assoc]⟩
theorem itP_suf {T ls : List Nat} {lo hi : Nat → Nat} {b : Nat} : ∀ (k s : Nat) (g : Nat → Int32) (r : List Nat) (q : (Nat → Int32) × List Nat), itP T ls lo hi b k s g r = .ok q → Sx r q.2
  | 0, s, g, r, q, h => by
    have : (g, r) = q := Except.ok.inj h
    rw [← this]
    exact Sx.rf r
  | k + 1, s, g, r, q, h => by
    have h : (match ixr ls (sk r) with
      | none => Except.ok (g, sk r)
      | some i => if s.testBit i = true then .error (po T (sk r)) else
        if nok 3 (sk r).tail = true then
          (if lo i ≤ nv 3 (sk r).tail ∧ nv 3 (sk r).tail ≤ hi i then itP T ls lo hi b k (s ||| 2 ^ i) (up g (b + i) (nI (nv 3 (sk r).tail))) (nr 3 (sk r).tail) else .error (po T (nr 3 (sk r).tail) - 1))
        else .error (po T (nr 3 (sk r).tail))) = Except.ok q := h
    cases hx : ixr ls (sk r) with
    | none =>
      rw [hx] at h
      have : (g, sk r) = q := Except.ok.inj h
      rw [← this]
      exact (Sx.rf r).skp
    | some i =>
      rw [hx] at h
      simp only at h
      split at h
      · cases h
      · split at h
        · split at h
          · have := itP_suf k _ _ _ q h
            have ht : Sx r (sk r).tail := by
              have h1 : Sx r (sk r) := (Sx.rf r).skp
              cases e : sk r with
              | nil => rw [e] at h1; exact h1
              | cons x y => rw [e] at h1; exact h1.tl
            exact (Sx.tr ht (Sx.rd (Sx.rf _).skp)).tr this
          · cases h
        · cases h
theorem tx16 : e_txt 16 = some (rls.map nI) := by decide +kernel
theorem tx17 : e_txt 17 = some (wls.map nI) := by decide +kernel
theorem tx19 : e_txt 19 = some (rls.map nI) := by decide +kernel
theorem tx20 : e_txt 20 = some (wls.map nI) := by decide +kernel
theorem ro_ia {sc : aS} {h : aH} {k j n : Nat} {f : Nat → Int32} (hk : e_ro sc k = some (n, f)) (hk32 : k < 32) (hj : j < n) (hn : n < 2 ^ 31) : e_ia sc h k 0 (nI j) = some (f j) := by
  have e : e_arr sc h k 0 = some (n, f) := by
    unfold e_arr
    rw [show Nat.blt k 32 = true from Nat.blt_eq.mpr hk32]
    exact hk
  unfold e_ia
  rw [e]
  show (if ¬ (nI j < 0 ∨ n ≤ (nI j).toNatClampNeg) then some (f (nI j).toNatClampNeg) else none) = _
  rw [cl_nI hj hn, if_pos (fun z => z.elim (nI_pos (by omega)) (by omega))]
theorem cpy_to {sc : aS} {sh : List sE} {M : aM} {A k dp n n0 n1 : Nat} {f : Nat → Int32} (hk : e_arr sc (mk sh M) k 0 = some (n0, f)) (ha : shp sh A = some (.inr (.inl (0, n1)))) (h0 : n ≤ n0) (h1 : dp + n ≤ n1) (hn : n1 < 2 ^ 31) : e_int sc 1003 [.ref k, .int 0, .ref A, .int (nI dp), .int (nI n)] (mk sh M) = some (none, mk sh (mR M A (va_cpy f (M.2.1 A) 0 dp n))) := by
  have e1 : e_c (mk sh M) A = some (.inl (0, n1, .inl (M.2.1 A))) := by rw [e_c_mk, ha]; rfl
  show (match e_arr sc (mk sh M) k 0, e_c (mk sh M) A with
    | some (n0, f), some (.inl (0, n1, .inl g)) => if ¬ (0 : Int32) < 0 ∧ ¬ nI dp < 0 ∧ ¬ nI n < 0 ∧ (0 : Int32).toNatClampNeg + (nI n).toNatClampNeg ≤ n0 ∧ (nI dp).toNatClampNeg + (nI n).toNatClampNeg ≤ n1 then some (none, (mk sh M).set (A - 32) (.inl (0, n1, .inl (va_cpy f g (0 : Int32).toNatClampNeg (nI dp).toNatClampNeg (nI n).toNatClampNeg)))) else none
    | _, _ => none) = _
  rw [hk, e1]
  simp only
  have d1 : (nI dp).toNatClampNeg = dp := nI_clamp (by omega)
  have d2 : (nI n).toNatClampNeg = n := nI_clamp (by omega)
  rw [if_pos ⟨by decide, nI_pos (by omega), nI_pos (by omega), by rw [d2]; show 0 + n ≤ n0; omega, by rw [d1, d2]; exact h1⟩, d1, d2, show (0 : Int32).toNatClampNeg = 0 from rfl]
  congr 2
  refine mk_set0 ha ?_ (fun b t hb => mkc_offR t hb)
  simp only [mkc]
  congr 4
  funext j
  simp only [mR, if_true]
def CRw (E : aR) (sh : List sE) (M : aM) (q : Except Nat ((Nat → Int32) × (Nat → Int32) × Nat)) : Prop := match q with
  | .error p => ∃ gr' gw' p' v' c', E = some (some (.int (nI p)), mk sh (pS (mR (mR M 35 gr') 36 gw') p' v' c'))
  | .ok q => ∃ p' v', E = some (some (.int (-1)), mk sh (pS (mR (mR M 35 q.1) 36 q.2.1) p' v' q.2.2))
section
variable {sc : aS} {d : Nat} {sh : List sE} {M W : aM} {a : Nat} {T r : List Nat} {v u f : Int32} {c t : Nat}
theorem Tp_g1 (h33 : shp sh 33 = some (.inl (9, [37, 38, 39, 40, 0, 0, 0, 0]))) : e_gf (mk sh M) 33 9 1 = some (.ref 35) := by rw [gf_mk h33]; rfl
theorem Tp_g2 (h33 : shp sh 33 = some (.inl (9, [37, 38, 39, 40, 0, 0, 0, 0]))) : e_gf (mk sh M) 33 9 2 = some (.ref 36) := by rw [gf_mk h33]; rfl
theorem Tp_g3 (h33 : shp sh 33 = some (.inl (9, [37, 38, 39, 40, 0, 0, 0, 0]))) : e_gf (mk sh M) 33 9 3 = some (.ref 37) := by rw [gf_mk h33]; rfl
set_option maxRecDepth 20000 in
theorem T_row_loop (h33 : shp sh 33 = some (.inl (9, [37, 38, 39, 40, 0, 0, 0, 0]))) (h34 : shp sh 34 = some (.inr (.inl (0, 240)))) (h35 : shp sh 35 = some (.inr (.inl (0, 5)))) (h36 : shp sh 36 = some (.inr (.inl (0, 32)))) (hT : CTp M T) : ∀ (k i : Nat) (ru : Bool) (cl : Nat) (gr gw : Nat → Int32) (r : List Nat) (v : Int32) (L : aL), i + k = 241 → r.length < k → cl ≤ 8 → Sx T r → e_n2 L → e_ld L 0 = some (.ref 33) → e_ld L 1 = some (.int (if ru = true then 1 else 0)) → e_ld L 2 = some (.int (nI i)) → CRw (evp sc (d + 8 + 1 + 1) 111 27 L [] (mk sh (pS (mR (mR M 35 gr) 36 gw) (po T r) v cl))) sh M (rwP T k ru cl gr gw r)
  | 0, i, ru, cl, gr, gw, r, v, L, hi, hrl, hcl, hr, hN, h0, h1, h2 => by omega
  | k + 1, i, ru, cl, gr, gw, r, v, L, hi, hrl, hcl, hr, hN, h0, h1, h2 => by
    have hT2 : CTp (mR (mR M 35 gr) 36 gw) T := (hT.mR (by decide)).mR (by decide)
    have c1 : ((240 : Int32) < nI i) = False := eq_false (by rw [show (240 : Int32) = nI 240 from rfl, nI_ltE (by decide) (by omega)]; omega)
    have ts := T_sign (sc := sc) (d := d + 8 + 1) (v := v) (c := cl) h33 h34 hT2 r hr
    have hrs := hr.skp
    have hsl : (sk r).length ≤ r.length := Sx.le (Sx.rf r).skp
    cases hsk : sk r with
    | nil =>
      have e : rwP T (k + 1) ru cl gr gw r = .error (po T []) := by
        show (match sk r with | [] => _ | x :: r2 => _) = _
        rw [hsk]
      rw [e]
      rw [hsk] at ts
      have z1 : ((0 : Int32) = 115) = False := by decide
      have z2 : ((0 : Int32) = 113) = False := by decide
      refine ⟨gr, gw, po T [], v, cl, ?_⟩
      rw [s111_27]
      simp (maxDischargeDepth := 9) only [s111_28, s111_31, s111_34, s111_35, s111_38, s111_39, s111_40, s111_42, s111_86, s111_87, s111_89, s111_172, s111_173, s111_176, nl_sti, nl_str, nl_ci, nl_cr, nl_nil, ld_cons, ld_st, lr_some, li_some, lj_some, n2_nl, n2_ci, n2_cr, n2_nil, n2_sti, n2_str, tl_some, tl_none, cat_le, List.length_cons, List.length_nil, Option.bind_some, Option.bind_none, Option.map_some, cond_true, cond_false, Bool.and_true, Bool.true_and, reduceIte, Nat.reduceEqDiff, Nat.reduceAdd, Nat.reduceLeDiff, Nat.zero_add, Nat.zero_le, Nat.zero_ne_one, Nat.one_ne_zero, Nat.reduceLT, true_or, or_true, false_or, or_false, false_and, true_and, and_false, and_true, not_false_eq_true, not_true_eq_false, eq_self, mA_A, mA_I, mI_A, mI_I, b01, b10, b01n, b10n, i10, i01, im0, ei_max, ei_min, ei_obj, n30, n20, b011, b101, orn, nor, dneg, dnle, dne, dcl, cat0, cat1, cat2, cat3, cat4, Tp_c h33, Tp_g5 h33, pS_5, hN, h0, h1, h2, c1, ts, hd0, z1, z2]
    | cons x r2 =>
      rw [hsk] at ts hrs hsl
      rw [List.length_cons] at hsl
      obtain ⟨-, hx0, hx⟩ := hT.2.2 _ _ hrs.get
      have ex : rwP T (k + 1) ru cl gr gw r = (if x = 115 ∧ ru = false then
        (match itP T rls rlo rhi 0 6 0 gr r2 with
        | .error p => .error p
        | .ok q => match q.2 with
          | [] => .ok (q.1, gw, cl)
          | y :: r4 => if y = 59 then rwP T k true cl q.1 gw r4 else .error (po T (y :: r4)))
        else if x = 113 ∧ cl < 8 then
        (match itP T wls wlo whi (4 * cl) 5 0 (wdf gw (4 * cl)) r2 with
        | .error p => .error p
        | .ok q => match q.2 with
          | [] => .ok (gr, q.1, cl + 1)
          | y :: r4 => if y = 59 then rwP T k ru (cl + 1) gr q.1 r4 else .error (po T (y :: r4)))
        else .error (po T (x :: r2))) := by
        show (match sk r with | [] => _ | x :: r2 => _) = _
        rw [hsk]
      have e115 : (nI x = 115) = (x = 115) := propext (nI_eq (b := 115) (by omega) (by decide))
      have e113 : (nI x = 113) = (x = 113) := propext (nI_eq (b := 113) (by omega) (by decide))
      by_cases qs : x = 115 ∧ ru = false
      · obtain ⟨q1, q2⟩ := qs
        subst q2
        have h1 : e_ld L 1 = some (.int 0) := h1
        rw [ex, if_pos ⟨q1, rfl⟩]
        have t115 : (nI x = 115) = True := eq_true (by rw [q1]; rfl)
        have ti := T_items (sc := sc) (d := d) (v := v) (c := cl) (M := mR M 36 gw) (T := T) (A := 35) (la := 5) (b := 0) (k := 16) (le := 2) (mo := 3) (ls := rls) (lo := rlo) (hi := rhi) (g := gr) h33 h34 (hT.mR (by decide)) h35 (by decide) (by decide) (by decide) (by decide) (by decide) tx16 (by decide) (by decide) (fun h i hi => by
          rw [ro_ia (sc := sc) (h := h) (k := 2) (j := i) (n := 5) (f := fun j => ([2, 0, 0, 1, 0] : List Int32).getD j 0) rfl (by decide) hi (by decide)]
          have hi : i < 5 := hi
          rcases (show i = 0 ∨ i = 1 ∨ i = 2 ∨ i = 3 ∨ i = 4 by omega) with rfl | rfl | rfl | rfl | rfl <;> rfl) (fun h i hi => by
          rw [ro_ia (sc := sc) (h := h) (k := 3) (j := i) (n := 5) (f := fun j => ([8, 3, 9, 3, 255] : List Int32).getD j 0) rfl (by decide) hi (by decide)]
          have hi : i < 5 := hi
          rcases (show i = 0 ∨ i = 1 ∨ i = 2 ∨ i = 3 ∨ i = 4 by omega) with rfl | rfl | rfl | rfl | rfl <;> rfl) (by decide) hrs.tl
        rw [mR_cm (k := 35) (w := 36) (by decide), show rls.length + 1 = 6 from rfl] at ti
        have tp : ∀ b M', evp sc (d + 8 + 1) 112 0 [(0, .ref 33), (1, .ref 16), (2, .ref 2), (3, .ref 3), (4, .ref 35), (5, .int (nI 0))] [] (mk sh (pS (mR (mR M 35 gr) 36 gw) (po T r2) v cl)) = some (some (.int b), mk sh M') → evp sc (d + 8 + 1 + 1) 111 27 L [] (mk sh (pS (mR (mR M 35 gr) 36 gw) (po T r) v cl)) = evp sc (d + 8 + 1 + 1) 111 78 (e_st1 (e_st1 L 3 (.int (nI x))) 1 (.int 1)) [.int b] (mk sh M') := fun b M' tt => by
          have e00 : (nI 0 : Int32) = 0 := rfl
          rw [e00] at tt
          rw [s111_27]
          simp (maxDischargeDepth := 9) only [s111_28, s111_31, s111_34, s111_35, s111_38, s111_39, s111_40, s111_42, s111_45, s111_46, s111_49, s111_50, s111_51, s111_52r, s111_53, s111_56, s111_57, s111_58, s111_61, s111_62, s111_64, s111_67, s111_70, s111_71, s111_74, s111_75, nl_sti, nl_str, nl_ci, nl_cr, nl_nil, ld_cons, ld_st, lr_some, li_some, lj_some, n2_nl, n2_ci, n2_cr, n2_nil, n2_sti, n2_str, tl_some, tl_none, cat_le, List.length_cons, List.length_nil, Option.bind_some, Option.bind_none, Option.map_some, cond_true, cond_false, Bool.and_true, Bool.true_and, reduceIte, Nat.reduceEqDiff, Nat.reduceAdd, Nat.reduceLeDiff, Nat.zero_add, Nat.zero_le, Nat.zero_ne_one, Nat.one_ne_zero, Nat.reduceLT, true_or, or_true, false_or, or_false, false_and, true_and, and_false, and_true, not_false_eq_true, not_true_eq_false, eq_self, mA_A, mA_I, mI_A, mI_I, b01, b10, b01n, b10n, i10, i01, im0, ei_max, ei_min, ei_obj, n30, n20, b011, b101, orn, nor, dneg, dnle, dne, dcl, cat0, cat1, cat2, cat3, cat4, Tp_c h33, Tp_g1 h33, Tp_g5 h33, Tp_p5 h33, pS_5, pS_w5, hN, h0, h1, h2, c1, ts, hd0, t115, nI_1, hrs.po1, tt]
        cases ho : itP T rls rlo rhi 0 6 0 gr r2 with
        | error p =>
          rw [ho] at ti
          obtain ⟨g', v', tt⟩ := ti
          rw [mR_cm (k := 35) (w := 36) (by decide)] at tt
          refine ⟨g', gw, p, v', cl, ?_⟩
          rw [tp 0 _ tt, s111_78]
          simp (maxDischargeDepth := 9) only [s111_81, s111_82, s111_85, nl_sti, nl_str, nl_ci, nl_cr, nl_nil, ld_cons, ld_st, lr_some, li_some, lj_some, n2_nl, n2_ci, n2_cr, n2_nil, n2_sti, n2_str, tl_some, tl_none, cat_le, List.length_cons, List.length_nil, Option.bind_some, Option.bind_none, Option.map_some, cond_true, cond_false, Bool.and_true, Bool.true_and, reduceIte, Nat.reduceEqDiff, Nat.reduceAdd, Nat.reduceLeDiff, Nat.zero_add, Nat.zero_le, Nat.zero_ne_one, Nat.one_ne_zero, Nat.reduceLT, true_or, or_true, false_or, or_false, false_and, true_and, and_false, and_true, not_false_eq_true, not_true_eq_false, eq_self, mA_A, mA_I, mI_A, mI_I, b01, b10, b01n, b10n, i10, i01, im0, ei_max, ei_min, ei_obj, n30, n20, b011, b101, orn, nor, dneg, dnle, dne, dcl, cat0, cat1, cat2, cat3, cat4, Tp_g5 h33, pS_5, hN, h0]
        | ok q =>
          obtain ⟨g1, r1⟩ := q
          rw [ho] at ti
          obtain ⟨v', tt⟩ := ti
          rw [mR_cm (k := 35) (w := 36) (by decide)] at tt
          have hT3 : CTp (mR (mR M 35 g1) 36 gw) T := (hT.mR (by decide)).mR (by decide)
          have hsf := itP_suf _ _ _ _ _ ho
          have hq : Sx T r1 := hrs.tl.tr hsf
          have hql := hsf.le
          have e10 : ((1 : Int32) = 0) = False := by decide
          rw [tp _ _ tt, s111_78]
          cases r1 with
          | nil =>
            skip
            have lt' : (nI (po T []) < nI T.length) = False := eq_false (by show ¬ nI (T.length - 0) < nI T.length; exact Int32.lt_irrefl)
            refine ⟨po T [], v', ?_⟩
            simp (maxDischargeDepth := 9) only [s111_177, s111_178, s111_181, s111_182, s111_185, s111_188, s111_189, nl_sti, nl_str, nl_ci, nl_cr, nl_nil, ld_cons, ld_st, lr_some, li_some, lj_some, n2_nl, n2_ci, n2_cr, n2_nil, n2_sti, n2_str, tl_some, tl_none, cat_le, List.length_cons, List.length_nil, Option.bind_some, Option.bind_none, Option.map_some, cond_true, cond_false, Bool.and_true, Bool.true_and, reduceIte, Nat.reduceEqDiff, Nat.reduceAdd, Nat.reduceLeDiff, Nat.zero_add, Nat.zero_le, Nat.zero_ne_one, Nat.one_ne_zero, Nat.reduceLT, true_or, or_true, false_or, or_false, false_and, true_and, and_false, and_true, not_false_eq_true, not_true_eq_false, eq_self, mA_A, mA_I, mI_A, mI_I, b01, b10, b01n, b10n, i10, i01, im0, ei_max, ei_min, ei_obj, n30, n20, b011, b101, orn, nor, dneg, dnle, dne, dcl, cat0, cat1, cat2, cat3, cat4, Tp_g4 h33, Tp_g5 h33, pS_4, pS_5, hT3.1, hN, h0, sep, e10, lt']
          | cons y r4 =>
            skip
            rw [List.length_cons] at hql
            have lt' : (nI (po T (y :: r4)) < nI T.length) = True := eq_true (by
              have := hq.le
              rw [List.length_cons] at this
              rw [nI_ltE (by have := hT.2.1; unfold po; omega) (by have := hT.2.1; omega)]
              unfold po
              rw [List.length_cons]
              omega)
            by_cases qy : y = 59
            · have cs : sep (y :: r4) = true := decide_eq_true qy
              show CRw _ sh M (if y = 59 then rwP T k true cl g1 gw r4 else .error (po T (y :: r4)))
              rw [if_pos qy]
              have ih := T_row_loop h33 h34 h35 h36 hT k (i + 1) true cl g1 gw r4 v' (e_st1 (e_st1 (e_st1 L 3 (.int (nI x))) 1 (.int 1)) 2 (.int (nI (i + 1)))) (by omega) (by omega) hcl hq.tl (by simp (maxDischargeDepth := 9) only [nl_sti, nl_str, nl_ci, nl_cr, nl_nil, ld_cons, ld_st, lr_some, li_some, lj_some, n2_nl, n2_ci, n2_cr, n2_nil, n2_sti, n2_str, tl_some, tl_none, cat_le, List.length_cons, List.length_nil, Option.bind_some, Option.bind_none, Option.map_some, cond_true, cond_false, Bool.and_true, Bool.true_and, reduceIte, Nat.reduceEqDiff, Nat.reduceAdd, Nat.reduceLeDiff, Nat.zero_add, Nat.zero_le, Nat.zero_ne_one, Nat.one_ne_zero, Nat.reduceLT, true_or, or_true, false_or, or_false, false_and, true_and, and_false, and_true, not_false_eq_true, not_true_eq_false, eq_self, mA_A, mA_I, mI_A, mI_I, b01, b10, b01n, b10n, i10, i01, im0, ei_max, ei_min, ei_obj, n30, n20, hN]) (by simp only [nl_sti, nl_str, nl_ci, nl_cr, nl_nil, ld_cons, ld_st, lr_some, li_some, lj_some, n2_nl, n2_ci, n2_cr, n2_nil, n2_sti, n2_str, tl_some, tl_none, cat_le, List.length_cons, List.length_nil, Option.bind_some, Option.bind_none, Option.map_some, cond_true, cond_false, Bool.and_true, Bool.true_and, reduceIte, Nat.reduceEqDiff, Nat.reduceAdd, Nat.reduceLeDiff, Nat.zero_add, Nat.zero_le, Nat.zero_ne_one, Nat.one_ne_zero, Nat.reduceLT, true_or, or_true, false_or, or_false, false_and, true_and, and_false, and_true, not_false_eq_true, not_true_eq_false, eq_self, mA_A, mA_I, mI_A, mI_I, b01, b10, b01n, b10n, i10, i01, im0, ei_max, ei_min, ei_obj, n30, n20, h0]) (by simp only [nl_sti, nl_str, nl_ci, nl_cr, nl_nil, ld_cons, ld_st, lr_some, li_some, lj_some, n2_nl, n2_ci, n2_cr, n2_nil, n2_sti, n2_str, tl_some, tl_none, cat_le, List.length_cons, List.length_nil, Option.bind_some, Option.bind_none, Option.map_some, cond_true, cond_false, Bool.and_true, Bool.true_and, reduceIte, Nat.reduceEqDiff, Nat.reduceAdd, Nat.reduceLeDiff, Nat.zero_add, Nat.zero_le, Nat.zero_ne_one, Nat.one_ne_zero, Nat.reduceLT, true_or, or_true, false_or, or_false, false_and, true_and, and_false, and_true, not_false_eq_true, not_true_eq_false, eq_self, mA_A, mA_I, mI_A, mI_I, b01, b10, b01n, b10n, i10, i01, im0, ei_max, ei_min, ei_obj, n30, n20]) (by simp only [nl_sti, nl_str, nl_ci, nl_cr, nl_nil, ld_cons, ld_st, lr_some, li_some, lj_some, n2_nl, n2_ci, n2_cr, n2_nil, n2_sti, n2_str, tl_some, tl_none, cat_le, List.length_cons, List.length_nil, Option.bind_some, Option.bind_none, Option.map_some, cond_true, cond_false, Bool.and_true, Bool.true_and, reduceIte, Nat.reduceEqDiff, Nat.reduceAdd, Nat.reduceLeDiff, Nat.zero_add, Nat.zero_le, Nat.zero_ne_one, Nat.one_ne_zero, Nat.reduceLT, true_or, or_true, false_or, or_false, false_and, true_and, and_false, and_true, not_false_eq_true, not_true_eq_false, eq_self, mA_A, mA_I, mI_A, mI_I, b01, b10, b01n, b10n, i10, i01, im0, ei_max, ei_min, ei_obj, n30, n20])
              simp (maxDischargeDepth := 9) only [s111_177, s111_178, s111_181, s111_182, s111_185, s111_190, s111_191r, s111_192, s111_195, s111_196, s111_197, s111_200, s111_203, nl_sti, nl_str, nl_ci, nl_cr, nl_nil, ld_cons, ld_st, lr_some, li_some, lj_some, n2_nl, n2_ci, n2_cr, n2_nil, n2_sti, n2_str, tl_some, tl_none, cat_le, List.length_cons, List.length_nil, Option.bind_some, Option.bind_none, Option.map_some, cond_true, cond_false, Bool.and_true, Bool.true_and, reduceIte, Nat.reduceEqDiff, Nat.reduceAdd, Nat.reduceLeDiff, Nat.zero_add, Nat.zero_le, Nat.zero_ne_one, Nat.one_ne_zero, Nat.reduceLT, true_or, or_true, false_or, or_false, false_and, true_and, and_false, and_true, not_false_eq_true, not_true_eq_false, eq_self, mA_A, mA_I, mI_A, mI_I, b01, b10, b01n, b10n, i10, i01, im0, ei_max, ei_min, ei_obj, n30, n20, b011, b101, orn, nor, dneg, dnle, dne, dcl, cat0, cat1, cat2, cat3, cat4, Tp_g4 h33, Tp_g5 h33, Tp_p5 h33, pS_4, pS_5, pS_w5, hT3.1, hN, h0, h2, cs, e10, lt', nI_1, hq.po1]
              exact ih
            · have cs : ¬ sep (y :: r4) = true := fun z => qy (of_decide_eq_true z)
              show CRw _ sh M (if y = 59 then rwP T k true cl g1 gw r4 else .error (po T (y :: r4)))
              rw [if_neg qy]
              refine ⟨g1, gw, po T (y :: r4), v', cl, ?_⟩
              rw [if_neg cs]
              simp (maxDischargeDepth := 9) only [s111_81, s111_82, s111_85, nl_sti, nl_str, nl_ci, nl_cr, nl_nil, ld_cons, ld_st, lr_some, li_some, lj_some, n2_nl, n2_ci, n2_cr, n2_nil, n2_sti, n2_str, tl_some, tl_none, cat_le, List.length_cons, List.length_nil, Option.bind_some, Option.bind_none, Option.map_some, cond_true, cond_false, Bool.and_true, Bool.true_and, reduceIte, Nat.reduceEqDiff, Nat.reduceAdd, Nat.reduceLeDiff, Nat.zero_add, Nat.zero_le, Nat.zero_ne_one, Nat.one_ne_zero, Nat.reduceLT, true_or, or_true, false_or, or_false, false_and, true_and, and_false, and_true, not_false_eq_true, not_true_eq_false, eq_self, mA_A, mA_I, mI_A, mI_I, b01, b10, b01n, b10n, i10, i01, im0, ei_max, ei_min, ei_obj, n30, n20, b011, b101, orn, nor, dneg, dnle, dne, dcl, cat0, cat1, cat2, cat3, cat4, Tp_g5 h33, pS_5, hN, h0]
      · by_cases qq : x = 113 ∧ cl < 8
        · obtain ⟨q1, q2⟩ := qq
          have f115 : (nI x = 115) = False := by rw [e115]; exact eq_false (by omega)
          have t113 : (nI x = 113) = True := eq_true (by rw [q1]; rfl)
          rw [ex, if_neg qs, if_pos ⟨q1, q2⟩]
          have c8 : ((8 : Int32) ≤ nI cl) = False := eq_false (nI_ge (b := 8) q2 (by decide))
          have m4 : nI cl * 4 = nI (4 * cl) := by rw [show (4 : Int32) = nI 4 from rfl, nI_mul, Nat.mul_comm]
          have tc := cpy_to (sc := sc) (sh := sh) (M := pS (mR (mR M 35 gr) 36 gw) (po T r2) v (cl + 1)) (A := 36) (k := 4) (dp := 4 * cl) (n := 4) (n0 := 4) (n1 := 32) (f := fun j => ([0, 1, 0, 1] : List Int32).getD j 0) rfl h36 (by decide) (by omega) (by decide)
          have tc2 : mR (pS (mR (mR M 35 gr) 36 gw) (po T r2) v (cl + 1)) 36 (va_cpy (fun j => ([0, 1, 0, 1] : List Int32).getD j 0) ((pS (mR (mR M 35 gr) 36 gw) (po T r2) v (cl + 1)).2.1 36) 0 (4 * cl) 4) = pS (mR (mR M 35 gr) 36 (wdf gw (4 * cl))) (po T r2) v (cl + 1) := by
            rw [pS_A, mR_s, wdf_eq]
            show pS (mR (mR (mR M 35 gr) 36 gw) 36 (wdf gw (4 * cl))) _ _ _ = _
            rw [mR_mR]
          rw [tc2, show nI 4 = (4 : Int32) from rfl] at tc
          have ti := T_items (sc := sc) (d := d) (v := v) (c := cl + 1) (M := mR M 35 gr) (T := T) (A := 36) (la := 32) (b := 4 * cl) (k := 17) (le := 5) (mo := 6) (ls := wls) (lo := wlo) (hi := whi) (g := wdf gw (4 * cl)) h33 h34 (hT.mR (by decide)) h36 (by decide) (by decide) (by show 4 * cl + 4 ≤ 32; omega) (by decide) (by decide) tx17 (by decide) (by decide) (fun h i hi => by
            rw [ro_ia (sc := sc) (h := h) (k := 5) (j := i) (n := 4) (f := fun j => ([0, 0, 0, 1] : List Int32).getD j 0) rfl (by decide) hi (by decide)]
            have hi : i < 4 := hi
            rcases (show i = 0 ∨ i = 1 ∨ i = 2 ∨ i = 3 by omega) with rfl | rfl | rfl | rfl <;> rfl) (fun h i hi => by
            rw [ro_ia (sc := sc) (h := h) (k := 6) (j := i) (n := 4) (f := fun j => ([7, 7, 2, 9] : List Int32).getD j 0) rfl (by decide) hi (by decide)]
            have hi : i < 4 := hi
            rcases (show i = 0 ∨ i = 1 ∨ i = 2 ∨ i = 3 by omega) with rfl | rfl | rfl | rfl <;> rfl) (by decide) hrs.tl
          rw [show wls.length + 1 = 5 from rfl] at ti
          have tp : ∀ b M', evp sc (d + 8 + 1) 112 0 [(0, .ref 33), (1, .ref 17), (2, .ref 5), (3, .ref 6), (4, .ref 36), (5, .int (nI (4 * cl)))] [] (mk sh (pS (mR (mR M 35 gr) 36 (wdf gw (4 * cl))) (po T r2) v (cl + 1))) = some (some (.int b), mk sh M') → evp sc (d + 8 + 1 + 1) 111 27 L [] (mk sh (pS (mR (mR M 35 gr) 36 gw) (po T r) v cl)) = evp sc (d + 8 + 1 + 1) 111 161 (e_st1 (e_st1 L 3 (.int (nI x))) 4 (.int (nI (4 * cl)))) [.int b] (mk sh M') := fun b M' tt => by
            rw [s111_27]
            simp (maxDischargeDepth := 9) only [s111_28, s111_31, s111_34, s111_35, s111_38, s111_39, s111_40, s111_42, s111_86, s111_87, s111_89, s111_92, s111_93, s111_96, s111_98, s111_101, s111_102, s111_105, s111_106, s111_107, s111_109, s111_110r, s111_111, s111_114, s111_115, s111_116, s111_119, s111_120r, s111_121, s111_124, s111_125, s111_126, s111_129, s111_132, s111_133, s111_134, s111_137, s111_139, s111_140, s111_143, s111_144, s111_146, s111_149, s111_152, s111_153, s111_156, s111_158, nl_sti, nl_str, nl_ci, nl_cr, nl_nil, ld_cons, ld_st, lr_some, li_some, lj_some, n2_nl, n2_ci, n2_cr, n2_nil, n2_sti, n2_str, tl_some, tl_none, cat_le, List.length_cons, List.length_nil, Option.bind_some, Option.bind_none, Option.map_some, cond_true, cond_false, Bool.and_true, Bool.true_and, reduceIte, Nat.reduceEqDiff, Nat.reduceAdd, Nat.reduceLeDiff, Nat.zero_add, Nat.zero_le, Nat.zero_ne_one, Nat.one_ne_zero, Nat.reduceLT, true_or, or_true, false_or, or_false, false_and, true_and, and_false, and_true, not_false_eq_true, not_true_eq_false, eq_self, mA_A, mA_I, mI_A, mI_I, b01, b10, b01n, b10n, i10, i01, im0, ei_max, ei_min, ei_obj, n30, n20, b011, b101, orn, nor, dneg, dnle, dne, dcl, cat0, cat1, cat2, cat3, cat4, Tp_c h33, Tp_g2 h33, Tp_g5 h33, Tp_g7 h33, Tp_p5 h33, Tp_p7 h33, pS_5, pS_7, pS_w5, pS_w7, hN, h0, h1, h2, c1, ts, hd0, f115, t113, c8, m4, nI_1, hrs.po1, tc, tt]
          cases ho : itP T wls wlo whi (4 * cl) 5 0 (wdf gw (4 * cl)) r2 with
          | error p =>
            rw [ho] at ti
            obtain ⟨g', v', tt⟩ := ti
            refine ⟨gr, g', p, v', cl + 1, ?_⟩
            rw [tp 0 _ tt, s111_161]
            simp (maxDischargeDepth := 9) only [s111_164, s111_165, s111_168, nl_sti, nl_str, nl_ci, nl_cr, nl_nil, ld_cons, ld_st, lr_some, li_some, lj_some, n2_nl, n2_ci, n2_cr, n2_nil, n2_sti, n2_str, tl_some, tl_none, cat_le, List.length_cons, List.length_nil, Option.bind_some, Option.bind_none, Option.map_some, cond_true, cond_false, Bool.and_true, Bool.true_and, reduceIte, Nat.reduceEqDiff, Nat.reduceAdd, Nat.reduceLeDiff, Nat.zero_add, Nat.zero_le, Nat.zero_ne_one, Nat.one_ne_zero, Nat.reduceLT, true_or, or_true, false_or, or_false, false_and, true_and, and_false, and_true, not_false_eq_true, not_true_eq_false, eq_self, mA_A, mA_I, mI_A, mI_I, b01, b10, b01n, b10n, i10, i01, im0, ei_max, ei_min, ei_obj, n30, n20, b011, b101, orn, nor, dneg, dnle, dne, dcl, cat0, cat1, cat2, cat3, cat4, Tp_g5 h33, pS_5, hN, h0]
          | ok q =>
            obtain ⟨g1, r1⟩ := q
            rw [ho] at ti
            obtain ⟨v', tt⟩ := ti
            have hT3 : CTp (mR (mR M 35 gr) 36 g1) T := (hT.mR (by decide)).mR (by decide)
            have hsf := itP_suf _ _ _ _ _ ho
            have hq : Sx T r1 := hrs.tl.tr hsf
            have hql := hsf.le
            have e10 : ((1 : Int32) = 0) = False := by decide
            rw [tp _ _ tt, s111_161]
            cases r1 with
            | nil =>
              skip
              have lt' : (nI (po T []) < nI T.length) = False := eq_false (by show ¬ nI (T.length - 0) < nI T.length; exact Int32.lt_irrefl)
              refine ⟨po T [], v', ?_⟩
              simp (maxDischargeDepth := 9) only [s111_169, s111_177, s111_178, s111_181, s111_182, s111_185, s111_188, s111_189, nl_sti, nl_str, nl_ci, nl_cr, nl_nil, ld_cons, ld_st, lr_some, li_some, lj_some, n2_nl, n2_ci, n2_cr, n2_nil, n2_sti, n2_str, tl_some, tl_none, cat_le, List.length_cons, List.length_nil, Option.bind_some, Option.bind_none, Option.map_some, cond_true, cond_false, Bool.and_true, Bool.true_and, reduceIte, Nat.reduceEqDiff, Nat.reduceAdd, Nat.reduceLeDiff, Nat.zero_add, Nat.zero_le, Nat.zero_ne_one, Nat.one_ne_zero, Nat.reduceLT, true_or, or_true, false_or, or_false, false_and, true_and, and_false, and_true, not_false_eq_true, not_true_eq_false, eq_self, mA_A, mA_I, mI_A, mI_I, b01, b10, b01n, b10n, i10, i01, im0, ei_max, ei_min, ei_obj, n30, n20, b011, b101, orn, nor, dneg, dnle, dne, dcl, cat0, cat1, cat2, cat3, cat4, Tp_g4 h33, Tp_g5 h33, pS_4, pS_5, hT3.1, hN, h0, sep, e10, lt']
            | cons y r4 =>
              skip
              rw [List.length_cons] at hql
              have lt' : (nI (po T (y :: r4)) < nI T.length) = True := eq_true (by
                have := hq.le
                rw [List.length_cons] at this
                rw [nI_ltE (by have := hT.2.1; unfold po; omega) (by have := hT.2.1; omega)]
                unfold po
                rw [List.length_cons]
                omega)
              by_cases qy : y = 59
              · have cs : sep (y :: r4) = true := decide_eq_true qy
                show CRw _ sh M (if y = 59 then rwP T k ru (cl + 1) gr g1 r4 else .error (po T (y :: r4)))
                rw [if_pos qy]
                have ih := T_row_loop h33 h34 h35 h36 hT k (i + 1) ru (cl + 1) gr g1 r4 v' (e_st1 (e_st1 (e_st1 L 3 (.int (nI x))) 4 (.int (nI (4 * cl)))) 2 (.int (nI (i + 1)))) (by omega) (by omega) (by omega) hq.tl (by simp (maxDischargeDepth := 9) only [nl_sti, nl_str, nl_ci, nl_cr, nl_nil, ld_cons, ld_st, lr_some, li_some, lj_some, n2_nl, n2_ci, n2_cr, n2_nil, n2_sti, n2_str, tl_some, tl_none, cat_le, List.length_cons, List.length_nil, Option.bind_some, Option.bind_none, Option.map_some, cond_true, cond_false, Bool.and_true, Bool.true_and, reduceIte, Nat.reduceEqDiff, Nat.reduceAdd, Nat.reduceLeDiff, Nat.zero_add, Nat.zero_le, Nat.zero_ne_one, Nat.one_ne_zero, Nat.reduceLT, true_or, or_true, false_or, or_false, false_and, true_and, and_false, and_true, not_false_eq_true, not_true_eq_false, eq_self, mA_A, mA_I, mI_A, mI_I, b01, b10, b01n, b10n, i10, i01, im0, ei_max, ei_min, ei_obj, n30, n20, hN]) (by simp only [nl_sti, nl_str, nl_ci, nl_cr, nl_nil, ld_cons, ld_st, lr_some, li_some, lj_some, n2_nl, n2_ci, n2_cr, n2_nil, n2_sti, n2_str, tl_some, tl_none, cat_le, List.length_cons, List.length_nil, Option.bind_some, Option.bind_none, Option.map_some, cond_true, cond_false, Bool.and_true, Bool.true_and, reduceIte, Nat.reduceEqDiff, Nat.reduceAdd, Nat.reduceLeDiff, Nat.zero_add, Nat.zero_le, Nat.zero_ne_one, Nat.one_ne_zero, Nat.reduceLT, true_or, or_true, false_or, or_false, false_and, true_and, and_false, and_true, not_false_eq_true, not_true_eq_false, eq_self, mA_A, mA_I, mI_A, mI_I, b01, b10, b01n, b10n, i10, i01, im0, ei_max, ei_min, ei_obj, n30, n20, h0]) (by simp only [nl_sti, nl_str, nl_ci, nl_cr, nl_nil, ld_cons, ld_st, lr_some, li_some, lj_some, n2_nl, n2_ci, n2_cr, n2_nil, n2_sti, n2_str, tl_some, tl_none, cat_le, List.length_cons, List.length_nil, Option.bind_some, Option.bind_none, Option.map_some, cond_true, cond_false, Bool.and_true, Bool.true_and, reduceIte, Nat.reduceEqDiff, Nat.reduceAdd, Nat.reduceLeDiff, Nat.zero_add, Nat.zero_le, Nat.zero_ne_one, Nat.one_ne_zero, Nat.reduceLT, true_or, or_true, false_or, or_false, false_and, true_and, and_false, and_true, not_false_eq_true, not_true_eq_false, eq_self, mA_A, mA_I, mI_A, mI_I, b01, b10, b01n, b10n, i10, i01, im0, ei_max, ei_min, ei_obj, n30, n20, h1]) (by simp only [nl_sti, nl_str, nl_ci, nl_cr, nl_nil, ld_cons, ld_st, lr_some, li_some, lj_some, n2_nl, n2_ci, n2_cr, n2_nil, n2_sti, n2_str, tl_some, tl_none, cat_le, List.length_cons, List.length_nil, Option.bind_some, Option.bind_none, Option.map_some, cond_true, cond_false, Bool.and_true, Bool.true_and, reduceIte, Nat.reduceEqDiff, Nat.reduceAdd, Nat.reduceLeDiff, Nat.zero_add, Nat.zero_le, Nat.zero_ne_one, Nat.one_ne_zero, Nat.reduceLT, true_or, or_true, false_or, or_false, false_and, true_and, and_false, and_true, not_false_eq_true, not_true_eq_false, eq_self, mA_A, mA_I, mI_A, mI_I, b01, b10, b01n, b10n, i10, i01, im0, ei_max, ei_min, ei_obj, n30, n20])
                simp (maxDischargeDepth := 9) only [s111_169, s111_177, s111_178, s111_181, s111_182, s111_185, s111_190, s111_191r, s111_192, s111_195, s111_196, s111_197, s111_200, s111_203, nl_sti, nl_str, nl_ci, nl_cr, nl_nil, ld_cons, ld_st, lr_some, li_some, lj_some, n2_nl, n2_ci, n2_cr, n2_nil, n2_sti, n2_str, tl_some, tl_none, cat_le, List.length_cons, List.length_nil, Option.bind_some, Option.bind_none, Option.map_some, cond_true, cond_false, Bool.and_true, Bool.true_and, reduceIte, Nat.reduceEqDiff, Nat.reduceAdd, Nat.reduceLeDiff, Nat.zero_add, Nat.zero_le, Nat.zero_ne_one, Nat.one_ne_zero, Nat.reduceLT, true_or, or_true, false_or, or_false, false_and, true_and, and_false, and_true, not_false_eq_true, not_true_eq_false, eq_self, mA_A, mA_I, mI_A, mI_I, b01, b10, b01n, b10n, i10, i01, im0, ei_max, ei_min, ei_obj, n30, n20, b011, b101, orn, nor, dneg, dnle, dne, dcl, cat0, cat1, cat2, cat3, cat4, Tp_g4 h33, Tp_g5 h33, Tp_p5 h33, pS_4, pS_5, pS_w5, hT3.1, hN, h0, h2, cs, e10, lt', nI_1, hq.po1]
                exact ih
              · have cs : ¬ sep (y :: r4) = true := fun z => qy (of_decide_eq_true z)
                show CRw _ sh M (if y = 59 then rwP T k ru (cl + 1) gr g1 r4 else .error (po T (y :: r4)))
                rw [if_neg qy]
                refine ⟨gr, g1, po T (y :: r4), v', cl + 1, ?_⟩
                rw [if_neg cs]
                simp (maxDischargeDepth := 9) only [s111_164, s111_165, s111_168, nl_sti, nl_str, nl_ci, nl_cr, nl_nil, ld_cons, ld_st, lr_some, li_some, lj_some, n2_nl, n2_ci, n2_cr, n2_nil, n2_sti, n2_str, tl_some, tl_none, cat_le, List.length_cons, List.length_nil, Option.bind_some, Option.bind_none, Option.map_some, cond_true, cond_false, Bool.and_true, Bool.true_and, reduceIte, Nat.reduceEqDiff, Nat.reduceAdd, Nat.reduceLeDiff, Nat.zero_add, Nat.zero_le, Nat.zero_ne_one, Nat.one_ne_zero, Nat.reduceLT, true_or, or_true, false_or, or_false, false_and, true_and, and_false, and_true, not_false_eq_true, not_true_eq_false, eq_self, mA_A, mA_I, mI_A, mI_I, b01, b10, b01n, b10n, i10, i01, im0, ei_max, ei_min, ei_obj, n30, n20, b011, b101, orn, nor, dneg, dnle, dne, dcl, cat0, cat1, cat2, cat3, cat4, Tp_g5 h33, pS_5, hN, h0]
        · rw [ex, if_neg qs, if_neg qq]
          refine ⟨gr, gw, po T (x :: r2), v, cl, ?_⟩
          rw [s111_27]
          by_cases q1 : x = 115
          · have hru : ru = true := by cases ru; exact absurd ⟨q1, rfl⟩ qs; rfl
            subst hru
            have h1 : e_ld L 1 = some (.int 1) := h1
            have t115 : (nI x = 115) = True := eq_true (by rw [q1]; rfl)
            have f113 : (nI x = 113) = False := by rw [e113]; exact eq_false (by omega)
            have e10 : ((1 : Int32) = 0) = False := by decide
            simp (maxDischargeDepth := 9) only [s111_28, s111_31, s111_34, s111_35, s111_38, s111_39, s111_40, s111_42, s111_45, s111_46, s111_86, s111_87, s111_89, s111_172, s111_173, s111_176, nl_sti, nl_str, nl_ci, nl_cr, nl_nil, ld_cons, ld_st, lr_some, li_some, lj_some, n2_nl, n2_ci, n2_cr, n2_nil, n2_sti, n2_str, tl_some, tl_none, cat_le, List.length_cons, List.length_nil, Option.bind_some, Option.bind_none, Option.map_some, cond_true, cond_false, Bool.and_true, Bool.true_and, reduceIte, Nat.reduceEqDiff, Nat.reduceAdd, Nat.reduceLeDiff, Nat.zero_add, Nat.zero_le, Nat.zero_ne_one, Nat.one_ne_zero, Nat.reduceLT, true_or, or_true, false_or, or_false, false_and, true_and, and_false, and_true, not_false_eq_true, not_true_eq_false, eq_self, mA_A, mA_I, mI_A, mI_I, b01, b10, b01n, b10n, i10, i01, im0, ei_max, ei_min, ei_obj, n30, n20, b011, b101, orn, nor, dneg, dnle, dne, dcl, cat0, cat1, cat2, cat3, cat4, Tp_c h33, Tp_g5 h33, pS_5, hN, h0, h1, h2, c1, ts, hd0, t115, f113, e10]
          · have f115 : (nI x = 115) = False := by rw [e115]; exact eq_false q1
            by_cases q2 : x = 113
            · have c8 : ((8 : Int32) ≤ nI cl) = True := eq_true (nI_le (a := 8) (by omega) (by omega))
              have t113 : (nI x = 113) = True := eq_true (by rw [q2]; rfl)
              simp (maxDischargeDepth := 9) only [s111_28, s111_31, s111_34, s111_35, s111_38, s111_39, s111_40, s111_42, s111_86, s111_87, s111_89, s111_92, s111_93, s111_96, s111_98, s111_172, s111_173, s111_176, nl_sti, nl_str, nl_ci, nl_cr, nl_nil, ld_cons, ld_st, lr_some, li_some, lj_some, n2_nl, n2_ci, n2_cr, n2_nil, n2_sti, n2_str, tl_some, tl_none, cat_le, List.length_cons, List.length_nil, Option.bind_some, Option.bind_none, Option.map_some, cond_true, cond_false, Bool.and_true, Bool.true_and, reduceIte, Nat.reduceEqDiff, Nat.reduceAdd, Nat.reduceLeDiff, Nat.zero_add, Nat.zero_le, Nat.zero_ne_one, Nat.one_ne_zero, Nat.reduceLT, true_or, or_true, false_or, or_false, false_and, true_and, and_false, and_true, not_false_eq_true, not_true_eq_false, eq_self, mA_A, mA_I, mI_A, mI_I, b01, b10, b01n, b10n, i10, i01, im0, ei_max, ei_min, ei_obj, n30, n20, b011, b101, orn, nor, dneg, dnle, dne, dcl, cat0, cat1, cat2, cat3, cat4, Tp_c h33, Tp_g5 h33, Tp_g7 h33, pS_5, pS_7, hN, h0, h1, h2, c1, ts, hd0, f115, t113, c8]
            · have f113 : (nI x = 113) = False := by rw [e113]; exact eq_false q2
              simp (maxDischargeDepth := 9) only [s111_28, s111_31, s111_34, s111_35, s111_38, s111_39, s111_40, s111_42, s111_86, s111_87, s111_89, s111_172, s111_173, s111_176, nl_sti, nl_str, nl_ci, nl_cr, nl_nil, ld_cons, ld_st, lr_some, li_some, lj_some, n2_nl, n2_ci, n2_cr, n2_nil, n2_sti, n2_str, tl_some, tl_none, cat_le, List.length_cons, List.length_nil, Option.bind_some, Option.bind_none, Option.map_some, cond_true, cond_false, Bool.and_true, Bool.true_and, reduceIte, Nat.reduceEqDiff, Nat.reduceAdd, Nat.reduceLeDiff, Nat.zero_add, Nat.zero_le, Nat.zero_ne_one, Nat.one_ne_zero, Nat.reduceLT, true_or, or_true, false_or, or_false, false_and, true_and, and_false, and_true, not_false_eq_true, not_true_eq_false, eq_self, mA_A, mA_I, mI_A, mI_I, b01, b10, b01n, b10n, i10, i01, im0, ei_max, ei_min, ei_obj, n30, n20, b011, b101, orn, nor, dneg, dnle, dne, dcl, cat0, cat1, cat2, cat3, cat4, Tp_c h33, Tp_g5 h33, pS_5, hN, h0, h1, h2, c1, ts, hd0, f115, f113]
end
