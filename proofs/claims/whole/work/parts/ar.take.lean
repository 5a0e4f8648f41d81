/-! TEXT as a call -/
section
variable {sh : List sE} {M M' W W' : aM} {B B' : Nat}
theorem IP.ts (h : IP sh M W B) (q : ∀ x, 41 ≤ x → M'.1 x = M.1 x ∧ M'.2.1 x = M.2.1 x) (q8 : M'.1 32 = M.1 32) (p1 : ∀ j, (j = 12 ∨ j = 18 ∨ j = 19 ∨ j = 20) → W'.1 0 j = W.1 0 j) (p2 : ∀ k, (k = 3 ∨ k = 5 ∨ k = 8 ∨ k = 10 ∨ k = 11) → W'.2.1 k = W.2.1 k) (ht : TpR M' W') (hs : ScR M' W') (hB : B ≤ B') : IP sh M' W' B' := by
  obtain ⟨F, kk, h1, h2, h3, h4, h5, h6⟩ := h
  have sm : ∀ b n, 41 ≤ b → Sm M M' b n := fun b n hb x p _ => q x (by omega)
  have td : ∀ b, 41 ≤ b → TdC (lc M b) → TdC (lc M' b) := fun b hb z => (sm b 31 hb).td z
  have e8 : M'.1 32 8 = M.1 32 8 := by rw [q8]
  refine ⟨F, kk, ⟨h1.1, h1.2.mono hB⟩, ht, hs, by rw [(q 110 (by decide)).2, p2 5 (by omega)]; exact h4, td 75 (by decide) h5, ?_⟩
  rcases h6 with h6 | ⟨n, dl, bal, lv, t, c, st, st2, wl, al, l, Ln, g1, g2, g3⟩
  · left
    obtain ⟨a0, a1, a2, a3, a4, a5, a6, a7, a8, a9, a10, a11, a12, a13, a14, a15⟩ := h6
    refine ⟨a0, by rw [(q 41 (by decide)).1]; exact a1, (p1 12 (by omega)).trans a2, td 41 (by decide) a3, by rw [(q 67 (by decide)).1]; exact a4, by rw [(q 69 (by decide)).1]; exact a5, by rw [(q 72 (by decide)).1]; exact a6, ?_, (p1 19 (by omega)).trans a8, e8.trans a9, (p1 20 (by omega)).trans a10, by rw [p2 8 (by omega)]; exact a11, by rw [p2 8 (by omega)]; exact a12, by rw [(q 43 (by decide)).2]; exact a13, a14, by rw [(q 72 (by decide)).1]; exact a15⟩
    rw [p1 18 (by omega)]
    exact a7
  · right
    have hG := g1.2.2.2.1
    refine ⟨n, dl, bal, lv, t, c, st, st2, wl, al, l, Ln, ?_, by rw [p2 3 (by omega)]; exact g2, g3.of e8 (p1 20 (by omega)) (p2 10 (by omega)) (fun b e => sm b 31 (by have := g3.ge b e; omega)) hB⟩
    rw [p2 8 (by omega)]
    exact g1.of (sm 41 31 (by decide)) (q 72 (by decide)).1 (fun i b hi hb => sm b 31 (by have := (hG.1 i b hi hb).1; omega)) (p1 12 (by omega)) (p1 18 (by omega)) (p1 19 (by omega)) (p2 3 (by omega)) (p2 11 (by omega)) hB
theorem IP.ex (h : IP sh M W B) : ∃ F kk, (ShOk sh F kk ∧ Sz sh F kk B) ∧ TpR M W ∧ ScR M W ∧ (∀ j, j < 4 → M.2.1 110 j = W.2.1 5 j) ∧ TdC (lc M 75) ∧ TdC (lc M 41) ∧ Geo sh M F 127 ∧ (∃ st2, st2 < 40 ∧ W.1 0 18 = nI st2) ∧ (kk = 2 ∨ ∃ b, kk = b + 3 ∧ 127 ≤ b ∧ RowSh sh b ∧ TdC (lc M b) ∧ ∀ i b', i < 40 → F i = some b' → b + 31 ≤ b' ∨ b' + 31 ≤ b) := by
  obtain ⟨F, kk, h1, h2, h3, h4, h5, h6⟩ := h
  refine ⟨F, kk, h1, h2, h3, h4, h5, ?_⟩
  rcases h6 with ⟨a0, a1, a2, a3, a4, a5, a6, a7, a8, a9, a10, a11, a12, a13, a14, a15⟩ | ⟨n, dl, bal, lv, t, c, st, st2, wl, al, l, Ln, g1, g2, g3⟩
  · exact ⟨a3, ⟨fun i b hi hb => (by rw [a14 i hi] at hb; cases hb), fun i j b b' hi _ _ hb _ => (by rw [a14 i hi] at hb; cases hb)⟩, a7, Or.inl a0⟩
  · obtain ⟨b1, b2, b3, b4, b5, b6, b7, b8, b9, b10, b11, b12, b13, b14, b15, b16, b17, b18, b19, b20, b21, b22⟩ := g1
    exact ⟨b17.td, b4, ⟨st2, b14, b22⟩, g3.2.2.1⟩
/-- a row that has begun stands -/
theorem IP.nw {F : Nat → Option Nat} {kk st2 n dl bal lv : Nat} {wl : Nat → List Sg} {al : List (Nat → Int32)} {Ln : Nat → List (Option Se)} (h1 : ShOk sh F kk) (hz : Sz sh F kk B) (ht : TpR M W) (hs : ScR M W) (h4 : ∀ j, j < 4 → M.2.1 110 j = W.2.1 5 j) (h75 : TdC (lc M 75)) (hG : Geo sh M F 127) (hst : st2 < 40) (h18 : W.1 0 18 = nI st2) (hk : kk = 2 ∨ ∃ b, kk = b + 3 ∧ 127 ≤ b ∧ RowSh sh b ∧ TdC (lc M b) ∧ ∀ i b', i < 40 → F i = some b' → b + 31 ≤ b' ∨ b' + 31 ≤ b) (h72 : M.1 72 1 = 0) (h722 : M.1 72 2 = 0) (hR : RI (lc M 41) (W.2.1 8) n dl bal lv 0 B wl al (W.2.1 8, [], W.2.1 8) Ln) (hW : cW W n dl bal lv) (h19 : W.1 0 19 = 0) (h20 : W.1 0 20 = 0) (h8 : M.1 32 8 = 0) (h3 : W.2.1 3 0 = nI n) : IP sh M W B := by
  refine ⟨F, kk, ⟨h1, hz⟩, ht, hs, h4, h75, Or.inr ⟨n, dl, bal, lv, 0, 0, 0, st2, wl, al, [], Ln, ?_, h3, ?_⟩⟩
  · exact ⟨h1.1, h1.2.1, h1.2.2.1, hG, h1.2.2.2.2.2.1, by decide, by decide, by decide, by decide, by decide, by decide, by decide, by decide, hst, h72, h722, hR, by decide, KpR_0 _ _ _ _ _ _ _ _ _ _, hW, h19, h18⟩
  · exact ⟨by rw [h8, h20], Or.inl h20, hk, fun z => absurd (h20.symm.trans z) (by decide)⟩
end
section
variable {sc sc2 : aS} {d d2 : Nat} {sh sh2 : List sE} {M M2 W : aM} {a a2 kk : Nat} {n dl bal lv t cl m q : Nat} {x : Int32} {T : List Nat} {B : Nat}
theorem Sc_g0 (h38 : shp sh 38 = some (.inl (6, [42, 43, 0]))) : e_gf (mk sh M) 38 6 0 = some (.ref 39) := by rw [gf_mk h38]; rfl
theorem Sc_g1 (h38 : shp sh 38 = some (.inl (6, [42, 43, 0]))) : e_gf (mk sh M) 38 6 1 = some (.ref 40) := by rw [gf_mk h38]; rfl
theorem Sc_g2 (h38 : shp sh 38 = some (.inl (6, [42, 43, 0]))) : e_gf (mk sh M) 38 6 2 = some (.int (M.1 38 2)) := by rw [gf_mk h38]; rfl
theorem Sc_p2 (h38 : shp sh 38 = some (.inl (6, [42, 43, 0]))) : e_pf (mk sh M) 38 6 2 (.int x) = some (mk sh (mI M 38 2 x)) := pfI_mk h38 rfl rfl
def tkM (M : aM) (m q : Nat) : aM := mI (mI (mA (mR M 39 (va_cpy (M.2.1 37) (M.2.1 39) 0 (m * 80) 80)) 40 m (nI q)) 38 2 (nI (m + 1))) 33 4 0
theorem T_take (hb : BusSh sh 32 33 38 41 72 74 109 110 kk) (h33 : shp sh 33 = some (.inl (9, [37, 38, 39, 40, 0, 0, 0, 0]))) (h37 : shp sh 37 = some (.inr (.inl (0, 80)))) (h38 : shp sh 38 = some (.inl (6, [42, 43, 0]))) (h39 : shp sh 39 = some (.inr (.inl (0, 320)))) (h40 : shp sh 40 = some (.inr (.inl (0, 4)))) (hm : m < 4) (hM : M.1 38 2 = nI m) (h7 : M.1 33 7 = nI q) (h4 : M.1 33 4 = nI t) (ht : t ≤ 240) : evp sc (d + 2) 132 0 [(0, .ref 32)] [] (mk sh M) = some (some (.int (nI m)), mk sh (tkM M m q)) := by
  have c1 : (nI m < 4) = True := eq_true (by rw [show (4 : Int32) = nI 4 from rfl, nI_ltE (by omega) (by decide)]; exact hm)
  have c2 : (nI m = -1) = False := eq_false (nI_nm1 (by omega))
  have c3 : ((0 : Int32) ≤ nI t) = True := eq_true (Int32.not_lt.mp (nI_pos (by omega)))
  have c4 : ((0 : Int32) < 0) = False := by decide
  have tc := cpy_to (sc := sc) (sh := sh) (M := M) (A := 39) (k := 37) (dp := m * 80) (n := 80) (n0 := 80) (n1 := 320) (f := M.2.1 37) (arr_mk h37) h39 (by decide) (by omega) (by decide)
  rw [show nI 80 = (80 : Int32) from rfl] at tc
  have w40 : ∀ X : aM, e_is (mk sh X) 40 (nI m) (nI q) = some (mk sh (mA X 40 m (nI q))) := fun X => by
    rw [is_mk h40, cl_nI hm (by decide), if_pos (fun z => z.elim (nI_pos (by omega)) (by omega))]
  have m1 : ∀ g, (mR M 39 g).1 38 2 = nI m := fun g => hM
  have m2 : ∀ g v, (mA (mR M 39 g) 40 m v).1 38 2 = nI m := fun g v => hM
  have m3 : ∀ X : aM, (mI X 38 2 (nI (m + 1))).1 38 2 = nI (m + 1) := fun X => by rw [mI_At, if_pos rfl]
  have m5 : ∀ g, (mR M 39 g).1 33 4 = nI t := fun g => h4
  have m4 : ∀ g v, (mI (mA (mR M 39 g) 40 m v) 38 2 (nI (m + 1))).1 33 4 = nI t := fun g v => by rw [mI_o (by decide)]; exact h4
  simp (maxDischargeDepth := 9) only [s132_0, s132_1, s132_4, s132_5, s132_8, s132_11, s132_12, s132_15, s132_18, s132_21, s132_22, s132_23, s132_24, s132_27, s132_28, s132_31, s132_32, s132_35, s132_35r, s132_36, s132_37, s90_0, s90_1, s90_4, s90_5, s90_8, s90_9, s90_10, s90_11, s90_12, s90_13, s90_16, s90_17, s90_20, s90_22, s90_23, s90_25, s90_28, s90_29, s90_32, s90_33, s90_36, s90_37, s90_38, s90_39, s90_39r, s90_40, s90_43, s90_44, s90_45, s90_48, s90_49, s90_52, s90_53, s90_54, s110_0, s110_1, s110_4, s110_5, s110_6, s110_9, s110_12, s110_13, s110_14, s110_15, s110_16, s110_19, s110_20, nl_sti, nl_str, nl_ci, nl_cr, nl_nil, ld_cons, ld_st, lr_some, li_some, lj_some, n2_nl, n2_ci, n2_cr, n2_nil, n2_sti, n2_str, tl_some, tl_none, cat_le, List.length_cons, List.length_nil, Option.bind_some, Option.bind_none, Option.map_some, cond_true, cond_false, Bool.and_true, Bool.true_and, reduceIte, Nat.reduceEqDiff, Nat.reduceAdd, Nat.reduceLeDiff, Nat.zero_add, Nat.zero_le, Nat.zero_ne_one, Nat.one_ne_zero, Nat.reduceLT, true_or, or_true, false_or, or_false, false_and, true_and, and_false, and_true, not_false_eq_true, not_true_eq_false, eq_self, mA_A, mA_I, mI_A, mI_I, b01, b10, b01n, b10n, i10, i01, im0, ei_max, ei_min, ei_obj, n30, n20, b011, b101, orn, nor, dneg, dnle, dne, dcl, cat0, cat1, cat2, cat3, cat4, Bu_g0 hb, Bu_g1 hb, Tp_c h33, Tp_g3 h33, Tp_g4 h33, Tp_g7 h33, Tp_p4 h33, isC_mk h38, Sc_g0 h38, Sc_g1 h38, Sc_g2 h38, Sc_p2 h38, hM, h7, c1, c2, c3, c4, nm80, tc, w40, m1, m2, m3, m4, m5, nI_1, nI_sub1, nl_cj]
  rfl
theorem T_take4 (hb : BusSh sh 32 33 38 41 72 74 109 110 kk) (h33 : shp sh 33 = some (.inl (9, [37, 38, 39, 40, 0, 0, 0, 0]))) (h38 : shp sh 38 = some (.inl (6, [42, 43, 0]))) (hM : M.1 38 2 = nI 4) (h7 : M.1 33 7 = nI q) : evp sc (d + 2) 132 0 [(0, .ref 32)] [] (mk sh M) = some (some (.int (-1)), mk sh M) := by
  have c1 : (nI 4 < 4) = False := by decide
  simp (maxDischargeDepth := 9) only [s132_0, s132_1, s132_4, s132_5, s132_8, s132_11, s132_12, s132_15, s132_18, s132_21, s132_22, s132_23, s132_24, s132_27, s132_28, s132_31, s132_32, s132_35, s132_35r, s132_36, s132_37, s90_0, s90_1, s90_4, s90_5, s90_8, s90_9, s90_10, s90_11, s90_12, s90_13, s90_16, s90_17, s90_20, s90_22, s90_23, s90_25, s90_28, s90_29, s90_32, s90_33, s90_36, s90_37, s90_38, s90_39, s90_39r, s90_40, s90_43, s90_44, s90_45, s90_48, s90_49, s90_52, s90_53, s90_54, nl_sti, nl_str, nl_ci, nl_cr, nl_nil, ld_cons, ld_st, lr_some, li_some, lj_some, n2_nl, n2_ci, n2_cr, n2_nil, n2_sti, n2_str, tl_some, tl_none, cat_le, List.length_cons, List.length_nil, Option.bind_some, Option.bind_none, Option.map_some, cond_true, cond_false, Bool.and_true, Bool.true_and, reduceIte, Nat.reduceEqDiff, Nat.reduceAdd, Nat.reduceLeDiff, Nat.zero_add, Nat.zero_le, Nat.zero_ne_one, Nat.one_ne_zero, Nat.reduceLT, true_or, or_true, false_or, or_false, false_and, true_and, and_false, and_true, not_false_eq_true, not_true_eq_false, eq_self, mA_A, mA_I, mI_A, mI_I, b01, b10, b01n, b10n, i10, i01, im0, ei_max, ei_min, ei_obj, n30, n20, b011, b101, orn, nor, dneg, dnle, dne, dcl, cat0, cat1, cat2, cat3, cat4, Bu_g0 hb, Bu_g1 hb, Tp_g3 h33, Tp_g7 h33, isC_mk h38, Sc_g2 h38, hM, h7, c1, nl_cj]
def tkW (W : aM) (m q : Nat) : aM := mI (mR (mR (mI W 0 2 0) 6 (fun j => if 80 * m ≤ j ∧ j < 80 * m + 80 then W.2.1 6 (320 + (j - 80 * m)) else W.2.1 6 j)) 7 (up (W.2.1 7) m (nI q))) 0 13 (nI (m + 1))
theorem M_take (hS : ModSh sh a) (hm : m < 4) (hM : W.1 0 13 = nI m) (h7 : W.2.1 7 4 = nI q) : ∀ (L : aL), e_n2 L → e_ld L 0 = some (.ref a) → e_ld L 1 = some (.int 1) → evp sc d 202 39 L [] (mk sh (gl M a 15 W)) = some (some (.int (nI m)), mk sh (gl M a 15 (tkW W m q))) := fun L hN h0 h1 => by
  have e11 : ((1 : Int32) = 1) = True := by decide
  have hM2 : (mI W 0 2 0).1 0 13 = nI m := by rw [mI_At, if_neg (by decide)]; exact hM
  obtain ⟨L1, t1, l1, m1⟩ := M_cp80 (sc := sc) (d := d) (M := M) (W := mI W 0 2 0) hS hm hM2 80 0 (e_st1 (e_st1 L 2 (.int 80)) 3 (.int 0)) (by omega) (by simp (maxDischargeDepth := 9) only [nl_sti, nl_str, nl_ci, nl_cr, nl_nil, ld_cons, ld_st, lr_some, li_some, lj_some, n2_nl, n2_ci, n2_cr, n2_nil, n2_sti, n2_str, tl_some, tl_none, cat_le, List.length_cons, List.length_nil, Option.bind_some, Option.bind_none, Option.map_some, cond_true, cond_false, Bool.and_true, Bool.true_and, reduceIte, Nat.reduceEqDiff, Nat.reduceAdd, Nat.reduceLeDiff, Nat.zero_add, Nat.zero_le, Nat.zero_ne_one, Nat.one_ne_zero, Nat.reduceLT, true_or, or_true, false_or, or_false, false_and, true_and, and_false, and_true, not_false_eq_true, not_true_eq_false, eq_self, mA_A, mA_I, mI_A, mI_I, b01, b10, b01n, b10n, i10, i01, im0, ei_max, ei_min, ei_obj, n30, n20, hN]) (by simp only [nl_sti, nl_str, nl_ci, nl_cr, nl_nil, ld_cons, ld_st, lr_some, li_some, lj_some, n2_nl, n2_ci, n2_cr, n2_nil, n2_sti, n2_str, tl_some, tl_none, cat_le, List.length_cons, List.length_nil, Option.bind_some, Option.bind_none, Option.map_some, cond_true, cond_false, Bool.and_true, Bool.true_and, reduceIte, Nat.reduceEqDiff, Nat.reduceAdd, Nat.reduceLeDiff, Nat.zero_add, Nat.zero_le, Nat.zero_ne_one, Nat.one_ne_zero, Nat.reduceLT, true_or, or_true, false_or, or_false, false_and, true_and, and_false, and_true, not_false_eq_true, not_true_eq_false, eq_self, mA_A, mA_I, mI_A, mI_I, b01, b10, b01n, b10n, i10, i01, im0, ei_max, ei_min, ei_obj, n30, n20, h0]) (by simp only [nl_sti, nl_str, nl_ci, nl_cr, nl_nil, ld_cons, ld_st, lr_some, li_some, lj_some, n2_nl, n2_ci, n2_cr, n2_nil, n2_sti, n2_str, tl_some, tl_none, cat_le, List.length_cons, List.length_nil, Option.bind_some, Option.bind_none, Option.map_some, cond_true, cond_false, Bool.and_true, Bool.true_and, reduceIte, Nat.reduceEqDiff, Nat.reduceAdd, Nat.reduceLeDiff, Nat.zero_add, Nat.zero_le, Nat.zero_ne_one, Nat.one_ne_zero, Nat.reduceLT, true_or, or_true, false_or, or_false, false_and, true_and, and_false, and_true, not_false_eq_true, not_true_eq_false, eq_self, mA_A, mA_I, mI_A, mI_I, b01, b10, b01n, b10n, i10, i01, im0, ei_max, ei_min, ei_obj, n30, n20]) (by simp only [nl_sti, nl_str, nl_ci, nl_cr, nl_nil, ld_cons, ld_st, lr_some, li_some, lj_some, n2_nl, n2_ci, n2_cr, n2_nil, n2_sti, n2_str, tl_some, tl_none, cat_le, List.length_cons, List.length_nil, Option.bind_some, Option.bind_none, Option.map_some, cond_true, cond_false, Bool.and_true, Bool.true_and, reduceIte, Nat.reduceEqDiff, Nat.reduceAdd, Nat.reduceLeDiff, Nat.zero_add, Nat.zero_le, Nat.zero_ne_one, Nat.one_ne_zero, Nat.reduceLT, true_or, or_true, false_or, or_false, false_and, true_and, and_false, and_true, not_false_eq_true, not_true_eq_false, eq_self, mA_A, mA_I, mI_A, mI_I, b01, b10, b01n, b10n, i10, i01, im0, ei_max, ei_min, ei_obj, n30, n20, nz0])
  have e1 : mR (mI W 0 2 0) 6 (fun j => if 80 * m ≤ j ∧ j < 80 * m + 0 then (mI W 0 2 0).2.1 6 (320 + (j - 80 * m)) else (mI W 0 2 0).2.1 6 j) = mI W 0 2 0 := by
    rw [show (fun j => if 80 * m ≤ j ∧ j < 80 * m + 0 then (mI W 0 2 0).2.1 6 (320 + (j - 80 * m)) else (mI W 0 2 0).2.1 6 j) = (mI W 0 2 0).2.1 6 from funext (fun j => if_neg (by omega)), mR_self]
  rw [e1] at t1
  have r7 : ∀ g, e_ia sc (mk sh (gl M a 15 (mR (mI W 0 2 0) 6 g))) (a + 7) 0 4 = some (nI q) := fun g => by
    have : e_ia sc (mk sh (gl M a 15 (mR (mI W 0 2 0) 6 g))) (a + 7) 0 (nI 4) = some (nI q) := by
      rw [aM7 hS, cl_nI (show 4 < 5 by decide) (by decide), if_pos (fun z => z.elim (nI_pos (by omega)) (by omega)), mR_o (by decide)]
      show some (W.2.1 7 4) = _
      rw [h7]
    exact this
  have w7 : ∀ g, e_is (mk sh (gl M a 15 (mR (mI W 0 2 0) 6 g))) (a + 7) (nI m) (nI q) = some (mk sh (gl M a 15 (mR (mR (mI W 0 2 0) 6 g) 7 (up (W.2.1 7) m (nI q))))) := fun g => by
    rw [wM7 hS, cl_nI (show m < 5 by omega) (by decide), if_pos (fun z => z.elim (nI_pos (by omega)) (by omega)), mA_R, mR_o (by decide)]
    rfl
  have j1 : ∀ g, (mR (mI W 0 2 0) 6 g).1 0 13 = nI m := fun g => hM2
  have j2 : ∀ g g', (mR (mR (mI W 0 2 0) 6 g) 7 g').1 0 13 = nI m := fun g g' => hM2
  have j3 : ∀ X : aM, (mI X 0 13 (nI (m + 1))).1 0 13 = nI (m + 1) := fun X => mI_s _ _ _
  rw [s202_39]
  simp (maxDischargeDepth := 9) only [s202_40, s202_41, s202_44, s202_45, s202_46, s202_49, s202_51, s202_52, s202_53, nl_sti, nl_str, nl_ci, nl_cr, nl_nil, ld_cons, ld_st, lr_some, li_some, lj_some, n2_nl, n2_ci, n2_cr, n2_nil, n2_sti, n2_str, tl_some, tl_none, cat_le, List.length_cons, List.length_nil, Option.bind_some, Option.bind_none, Option.map_some, cond_true, cond_false, Bool.and_true, Bool.true_and, reduceIte, Nat.reduceEqDiff, Nat.reduceAdd, Nat.reduceLeDiff, Nat.zero_add, Nat.zero_le, Nat.zero_ne_one, Nat.one_ne_zero, Nat.reduceLT, true_or, or_true, false_or, or_false, false_and, true_and, and_false, and_true, not_false_eq_true, not_true_eq_false, eq_self, mA_A, mA_I, mI_A, mI_I, b01, b10, b01n, b10n, i10, i01, im0, ei_max, ei_min, ei_obj, n30, n20, b011, b101, orn, nor, dneg, dnle, dne, dcl, cat0, cat1, cat2, cat3, cat4, gM2, pM2, cM, hS, hN, h0, h1, e11, t1]
  rw [s202_88]
  simp (maxDischargeDepth := 9) only [s202_89, s202_92, s202_93, s202_96, s202_97, s202_100, s202_101, s202_102, s202_103, s202_104r, s202_105, s202_108, s202_109, s202_110, s202_113, s202_114, s202_117, s202_118, s202_119, nl_sti, nl_str, nl_ci, nl_cr, nl_nil, ld_cons, ld_st, lr_some, li_some, lj_some, n2_nl, n2_ci, n2_cr, n2_nil, n2_sti, n2_str, tl_some, tl_none, cat_le, List.length_cons, List.length_nil, Option.bind_some, Option.bind_none, Option.map_some, cond_true, cond_false, Bool.and_true, Bool.true_and, reduceIte, Nat.reduceEqDiff, Nat.reduceAdd, Nat.reduceLeDiff, Nat.zero_add, Nat.zero_le, Nat.zero_ne_one, Nat.one_ne_zero, Nat.reduceLT, true_or, or_true, false_or, or_false, false_and, true_and, and_false, and_true, not_false_eq_true, not_true_eq_false, eq_self, mA_A, mA_I, mI_A, mI_I, b01, b10, b01n, b10n, i10, i01, im0, ei_max, ei_min, ei_obj, n30, n20, b011, b101, orn, nor, dneg, dnle, dne, dcl, cat0, cat1, cat2, cat3, cat4, gM10, gM13, pM13, cM, hS, l1, m1, r7, w7, j1, j2, j3, nI_1, nI_sub1]
  rfl
end
