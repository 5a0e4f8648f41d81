/-! THE LOG: an act is told, in the class -/
def lgX (a b c : Int32) : Nat → Int32 := fun i => if i = 0 then a else if i = 1 then b else c
def rLog (R : aM) (P : Nat) (k x : Int32) : aM := mA (mA (mA (tdOpen R 26) 27 P k) 27 (P + 1) x) 27 (P + 2) (R.1 5 12)
theorem tdOpen_5 (R : aM) {j : Nat} (h : ¬ j = 26) : (tdOpen R 26).1 j = R.1 j := by
  unfold tdOpen
  split <;> exact mI_o h
section
variable {sc : aS} {d : Nat} {sh : List sE} {M W R : aM} {a w : Nat} {f : Nat → Int32} {h : aH}
theorem R_tail (hS : RowSh sh a) {P : Nat} {k x y v : Int32} {L : aL} (hP : tdPl (tdOpen R 26) 26 0 = nI P) (hp : P + 3 ≤ 180) (hL : e_n2 L) (h0 : e_ld L 0 = some (.ref a)) (h1 : e_ld L 1 = some (.int k)) (h2 : e_ld L 2 = some (.int x)) (h3 : e_ld L 3 = some (.int y)) (h6 : e_ld L 6 = some (.int v)) : evp sc (d + 6) 71 156 L [] (mk sh (gl M a 31 R)) = some (some (.int v), mk sh (gl M a 31 (rLog R P k (if k = 6 then y else x)))) := by
  have t1 := D26_put (sc := sc) (d := d + 4) (M := M) (R := tdOpen R 26) (w := 0) (v := k) (P := P) hS (by rw [hP, Int32.add_zero]) (by omega)
  have t2 := fun (z : Int32) => D26_put (sc := sc) (d := d + 4) (M := M) (R := mA (tdOpen R 26) 27 P k) (w := 1) (v := z) (P := P + 1) hS (by rw [tdPl_mA, hP, nI_1]) (by omega)
  have t3 := fun (z u : Int32) => D26_put (sc := sc) (d := d + 4) (M := M) (R := mA (mA (tdOpen R 26) 27 P k) 27 (P + 1) z) (w := 2) (v := u) (P := P + 2) hS (by rw [tdPl_mA, tdPl_mA, hP, show (2 : Int32) = nI 2 from rfl, nI_add]) (by omega)
  have e5 : (tdOpen R 26).1 5 12 = R.1 5 12 := by rw [tdOpen_5 R (by decide)]
  by_cases c : k = 6
  · subst c
    simp only [s71_0, s71_1, s71_3, s71_4, s71_44, s71_45, s71_46, s71_47, s71_49, s71_51, s71_54, s71_56, s71_59, s71_60, s71_61, s71_64, s71_66, s71_69, s71_70, s71_71, s71_74, s71_76, s71_79, s71_80, s71_80r, s71_81, s71_84, s71_85, s71_86, s71_87, s71_88, s71_89, s71_90, s71_93, s71_94, s71_97, s71_99, s71_102, s71_103, s71_103r, s71_104, s71_107, s71_108, s71_109, s71_110, s71_111, s71_114, s71_115, s71_118, s71_119, s71_122, s71_125, s71_126, s71_129, s71_130, s71_132, s71_135, s71_136, s71_137, s71_138, s71_141, s71_143, s71_146, s71_147, s71_148, s71_149, s71_151, s71_154, s71_156, s71_157, s71_160, s71_163, s71_164, s71_167, s71_168, s71_169, s71_172, s71_173, s71_176, s71_177, s71_178, s71_180, s71_183, s71_184, s71_187, s71_188, s71_191, s71_192, s71_195, s71_196, s71_197, s71_200, s71_203, s71_206, s71_208, nl_sti, nl_str, nl_ci, nl_cr, nl_nil, ld_cons, ld_st, lr_some, li_some, lj_some, n2_nl, n2_ci, n2_cr, n2_nil, n2_sti, n2_str, tl_some, tl_none, cat_le, List.length_cons, List.length_nil, Option.bind_some, Option.bind_none, Option.map_some, cond_true, cond_false, Bool.and_true, Bool.true_and, reduceIte, Nat.reduceEqDiff, Nat.reduceAdd, Nat.reduceLeDiff, Nat.zero_add, Nat.zero_le, Nat.zero_ne_one, Nat.one_ne_zero, Nat.reduceLT, true_or, or_true, false_or, or_false, false_and, true_and, and_false, and_true, not_false_eq_true, not_true_eq_false, eq_self, mA_A, mA_I, mI_A, mI_I, b01, b10, b01n, b10n, i10, i01, im0, ei_max, ei_min, ei_obj, n30, n20, b011, b101, orn, nor, dneg, dnle, dne, dcl, cat0, cat1, cat2, cat3, cat4, gR0_0, pR0_0, gR0_1, pR0_1, gR0_2, pR0_2, gR0_3, pR0_3, gR0_4, pR0_4, gR0_5, pR0_5, gR0_6, pR0_6, gR0_7, gR0_8, gR0_9, gR0_10, gR0_11, gR0_12, gR0_13, gR0_14, gR0_15, gR0_16, cR0, gR5_0, gR5_1, gR5_2, gR5_3, gR5_4, gR5_5, gR5_6, gR5_7, gR5_8, gR5_9, gR5_10, gR5_11, pR5_11, gR5_12, pR5_12, cR5, cR17, cR19, cR26, cR28, cR30, hS, hL, h0, h1, h2, h3, h6, D26_open hS, t1, t2, t3, mA_I0, e5, rLog]
  · simp only [s71_0, s71_1, s71_3, s71_4, s71_44, s71_45, s71_46, s71_47, s71_49, s71_51, s71_54, s71_56, s71_59, s71_60, s71_61, s71_64, s71_66, s71_69, s71_70, s71_71, s71_74, s71_76, s71_79, s71_80, s71_80r, s71_81, s71_84, s71_85, s71_86, s71_87, s71_88, s71_89, s71_90, s71_93, s71_94, s71_97, s71_99, s71_102, s71_103, s71_103r, s71_104, s71_107, s71_108, s71_109, s71_110, s71_111, s71_114, s71_115, s71_118, s71_119, s71_122, s71_125, s71_126, s71_129, s71_130, s71_132, s71_135, s71_136, s71_137, s71_138, s71_141, s71_143, s71_146, s71_147, s71_148, s71_149, s71_151, s71_154, s71_156, s71_157, s71_160, s71_163, s71_164, s71_167, s71_168, s71_169, s71_172, s71_173, s71_176, s71_177, s71_178, s71_180, s71_183, s71_184, s71_187, s71_188, s71_191, s71_192, s71_195, s71_196, s71_197, s71_200, s71_203, s71_206, s71_208, nl_sti, nl_str, nl_ci, nl_cr, nl_nil, ld_cons, ld_st, lr_some, li_some, lj_some, n2_nl, n2_ci, n2_cr, n2_nil, n2_sti, n2_str, tl_some, tl_none, cat_le, List.length_cons, List.length_nil, Option.bind_some, Option.bind_none, Option.map_some, cond_true, cond_false, Bool.and_true, Bool.true_and, reduceIte, Nat.reduceEqDiff, Nat.reduceAdd, Nat.reduceLeDiff, Nat.zero_add, Nat.zero_le, Nat.zero_ne_one, Nat.one_ne_zero, Nat.reduceLT, true_or, or_true, false_or, or_false, false_and, true_and, and_false, and_true, not_false_eq_true, not_true_eq_false, eq_self, mA_A, mA_I, mI_A, mI_I, b01, b10, b01n, b10n, i10, i01, im0, ei_max, ei_min, ei_obj, n30, n20, b011, b101, orn, nor, dneg, dnle, dne, dcl, cat0, cat1, cat2, cat3, cat4, gR0_0, pR0_0, gR0_1, pR0_1, gR0_2, pR0_2, gR0_3, pR0_3, gR0_4, pR0_4, gR0_5, pR0_5, gR0_6, pR0_6, gR0_7, gR0_8, gR0_9, gR0_10, gR0_11, gR0_12, gR0_13, gR0_14, gR0_15, gR0_16, cR0, gR5_0, gR5_1, gR5_2, gR5_3, gR5_4, gR5_5, gR5_6, gR5_7, gR5_8, gR5_9, gR5_10, gR5_11, pR5_11, gR5_12, pR5_12, cR5, cR17, cR19, cR26, cR28, cR30, hS, hL, h0, h1, h2, h3, h6, D26_open hS, t1, t2, t3, c, mA_I0, e5, rLog]
end
/-- the log of the reference, one more -/
def mNt (f : Nat → Int32) (c : Nat) (k x w : Int32) : Nat → Int32 := up (up (up (up f (1742 + 3 * c) k) (1742 + 3 * c + 1) x) (1742 + 3 * c + 2) w) 1741 (nI (c + 1))
def mNote (f : Nat → Int32) (k x w : Int32) : Nat → Int32 := if f 1741 = 60 then mNt (up (shf f 1742 177 3) 1741 (nI 59)) 59 k x w else mNt f (f 1741).toNatClampNeg k x w
theorem mNote_lo {f : Nat → Int32} {k x w : Int32} {j : Nat} (hj : j < 1741) : mNote f k x w j = f j := by
  unfold mNote mNt
  split
  · rw [up_o (by omega), up_o (by omega), up_o (by omega), up_o (by omega), up_o (by omega), shf_o (by omega)]
  · rw [up_o (by omega), up_o (by omega), up_o (by omega), up_o (by omega)]
theorem S_note {R R' : aM} {f : Nat → Int32} {al : List (Nat → Int32)} {P : Nat} {x0 x1 x2 : Int32} (h : RgL R f al) (hP : tdPl (tdOpen R 26) 26 0 = nI P) (hp : P + 3 ≤ 180) (h1 : R'.1 26 = (tdOpen R 26).1 26) (h2 : R'.2.1 27 = up (up (up (R.2.1 27) P x0) (P + 1) x1) (P + 2) x2) :
    RgL R' (mNote f x0 x1 x2) (RgL_p al (lgX x0 x1 x2)) := by
  have hlen : al.length ≤ 60 := by obtain ⟨st, a1, a2, a3, a4, a5, a6, a7, a8⟩ := h; exact a6
  have hb : f 1741 = nI al.length := by obtain ⟨st, a1, a2, a3, a4, a5, a6, a7, a8⟩ := h; exact a7
  have hpl := RgL_pl (x := lgX x0 x1 x2) hlen
  have col : ∀ (g : Nat → Int32) (k c : Nat), c < 3 → mNt g k x0 x1 x2 (1741 + 1 + 3 * k + c) = lgX x0 x1 x2 c := by
    intro g k c hc
    unfold mNt
    rw [up_o (by omega)]
    rcases (show c = 0 ∨ c = 1 ∨ c = 2 by omega) with rfl | rfl | rfl
    · rw [up_o (by omega), up_o (by omega)]
      exact up_s _ _ _
    · rw [up_o (by omega)]
      exact up_s _ _ _
    · exact up_s _ _ _
  refine RgL_push h hP (by omega) h1 (fun c hc => ?_) (fun i hi => ?_) ?_ (fun hl => ⟨fun i hi => ?_, fun c hc => ?_⟩) (fun hl => ⟨fun i hi => ?_, fun c hc => ?_⟩)
  · rw [h2]
    rcases (show c = 0 ∨ c = 1 ∨ c = 2 by omega) with rfl | rfl | rfl
    · rw [up_o (by omega), up_o (by omega)]
      exact up_s _ _ _
    · rw [up_o (by omega)]
      exact up_s _ _ _
    · exact up_s _ _ _
  · rw [h2, up_o (by omega), up_o (by omega), up_o (by omega)]
  · rw [hpl]
    unfold mNote
    by_cases hl : al.length < 60
    · rw [if_neg (show ¬ f 1741 = 60 from fun q => by rw [hb] at q; have := (nI_eq (b := 60) (by omega) (by omega)).mp q; omega), hb, nI_clamp (by omega), if_pos hl]
      exact up_s _ _ _
    · rw [if_pos (show f 1741 = 60 by rw [hb, show al.length = 60 by omega]; rfl), if_neg hl]
      exact up_s _ _ _
  · unfold mNote
    rw [if_neg (show ¬ f 1741 = 60 from fun q => by rw [hb] at q; have := (nI_eq (b := 60) (by omega) (by omega)).mp q; omega), hb, nI_clamp (by omega)]
    unfold mNt
    rw [up_o (by omega), up_o (by omega), up_o (by omega), up_o (by omega)]
  · unfold mNote
    rw [if_neg (show ¬ f 1741 = 60 from fun q => by rw [hb] at q; have := (nI_eq (b := 60) (by omega) (by omega)).mp q; omega), hb, nI_clamp (by omega)]
    exact col _ _ _ hc
  · unfold mNote
    rw [if_pos (show f 1741 = 60 by rw [hb, hl]; rfl)]
    unfold mNt
    rw [up_o (by omega), up_o (by omega), up_o (by omega), up_o (by omega), up_o (by omega)]
    unfold shf
    rw [if_pos (by omega)]
  · unfold mNote
    rw [if_pos (show f 1741 = 60 by rw [hb, hl]; rfl)]
    exact col _ 59 _ hc
/-- the class tells an act: the relation with its own picture of the log -/
theorem S_log {R : aM} {f : Nat → Int32} {n dl bal lv t B : Nat} {wl : Nat → List Sg} {al : List (Nat → Int32)} {lg : LgT} {Ln : Nat → List (Option Se)} (h : RI R f n dl bal lv t B wl al lg Ln) (k x : Int32) : ∃ P, tdPl (tdOpen R 26) 26 0 = nI P ∧ P + 3 ≤ 180 ∧ RI (rLog R P k x) f n dl bal lv t B wl al (mNote lg.1 k x (nI (tot wl)), RgL_p lg.2.1 (lgX k x (nI (tot wl))), lg.2.2) Ln := by
  obtain ⟨a1, a3, a4, a5, a6, a7, a8, a9, b1, b2, b3⟩ := h
  have hdl : dl ≤ 3 := a1.1.2.2.2.1
  obtain ⟨st, st', k0, k1, k2, k3, k4, k5, k6, k7, k8⟩ := RgL_place a9.1 (lgX k x (nI (tot wl)))
  refine ⟨_, k8, by omega, ?_⟩
  have hI : ∀ j, ¬ j = 26 → (rLog R (((st' + ((RgL_p lg.2.1 (lgX k x (nI (tot wl)))).length - 1)) % 60) * 3) k x).1 j = R.1 j := fun j q => by
    unfold rLog
    rw [mA_I0, mA_I0, mA_I0, tdOpen_5 R q]
  have hA : ∀ j, ¬ j = 27 → (rLog R (((st' + ((RgL_p lg.2.1 (lgX k x (nI (tot wl)))).length - 1)) % 60) * 3) k x).2.1 j = R.2.1 j := fun j q => by
    unfold rLog
    rw [mA_o q, mA_o q, mA_o q, tdOpen_A]
  refine ⟨a1.cg (hI 0 (by decide)) rfl rfl rfl, a3.cg (Nat.le_refl _) (fun k _ => by rw [hI 19 (by decide)]) (fun _ _ _ => rfl), a4.cg (fun k p q => hA k (by omega)) (fun _ _ _ => rfl) (fun _ _ _ => rfl), a5.cg (Nat.le_refl _) (fun k p q => hA k (by omega)) (fun _ _ _ _ _ => rfl), a6.cg (hI 5 (by decide)) (fun k p q => hA k (by omega)) (fun _ _ => rfl) (fun _ _ => rfl), a7.cg (Nat.le_refl _) (fun k p q => hA k (by omega)) (fun _ _ _ => rfl), a8.cg (hI 28 (by decide)) (hA 29 (by decide)) (fun _ _ => rfl), ⟨?_, a9.2⟩, b1.cg hdl (hA 18 (by decide)) (fun _ _ _ => rfl), b2, by rw [hI 19 (by decide)]; exact b3⟩
  refine S_note a9.1 k8 (by omega) ?_ ?_
  · unfold rLog; rw [mA_I0, mA_I0, mA_I0]
  · unfold rLog
    funext j
    have e5 : R.1 5 12 = nI (tot wl) := a6.2.2.1
    rw [mA_At, mA_At, mA_At, tdOpen_A, e5]
    rfl
/-- the reference tells it too: one picture again -/
theorem S_anchor {R : aM} {f : Nat → Int32} {n dl bal lv t B : Nat} {wl : Nat → List Sg} {al : List (Nat → Int32)} {g : Nat → Int32} {l : List (Nat → Int32)} {Ln : Nat → List (Option Se)} (h : RI R f n dl bal lv t B wl al (g, l, g) Ln) : RI R f n dl bal lv t B wl al (f, l, f) Ln := by
  obtain ⟨a1, a3, a4, a5, a6, a7, a8, a9, b⟩ := h
  exact ⟨a1, a3, a4, a5, a6, a7, a8, ⟨a9.1.cg rfl rfl (fun i hi => a9.2 i (by omega)), fun _ _ => rfl⟩, b⟩
theorem S_told {R : aM} {f g : Nat → Int32} {n dl bal lv t B : Nat} {wl : Nat → List Sg} {al : List (Nat → Int32)} {e : Nat → Int32} {l : List (Nat → Int32)} {Ln : Nat → List (Option Se)} (h : RI R f n dl bal lv t B wl al (g, l, e) Ln) (hf : ∀ j, j < 1741 → g j = f j) : RI R g n dl bal lv t B wl al (g, l, g) Ln := by
  obtain ⟨a1, a3, a4, a5, a6, a7, a8, a9, b1, b2, b3⟩ := h
  have hdl : dl ≤ 3 := a1.1.2.2.2.1
  exact ⟨a1.cg rfl (hf _ (by omega)) (hf _ (by omega)) (hf _ (by omega)), a3.cg (Nat.le_refl _) (fun _ _ => rfl) (fun j p q => hf j (by omega)), a4.cg (fun _ _ _ => rfl) (fun j p q => hf j (by omega)) (fun j p q => hf j (by omega)), a5.cg (Nat.le_refl _) (fun _ _ _ => rfl) (fun l k p q _ => hf _ (by omega)), a6.cg rfl (fun _ _ _ => rfl) (fun j p => hf j (by omega)) (fun l p => hf _ (by omega)), a7.cg (Nat.le_refl _) (fun _ _ _ => rfl) (fun j p q => hf j (by omega)), a8.cg rfl rfl (fun i hi => hf _ (by omega)), ⟨a9.1, fun _ _ => rfl⟩, b1.cg hdl rfl (fun j p q => hf j (by omega)), b2, b3⟩
