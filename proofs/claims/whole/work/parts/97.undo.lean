/-! UNDO, both alike -/
section
variable {sc : aS} {d : Nat} {sh : List sE} {M W : aM} {a s tp sr p o dr rf kk : Nat} {f : Nat → Int32} {F : Nat → Option Nat} {h h' : aH}
theorem M_undo_none (hS : ModSh sh a) (h19 : W.1 0 19 = nI 0) : evp sc d 253 0 [(0, .ref a)] [] (mk sh (gl M a 15 W)) = some (some (.int (-1)), mk sh (gl M a 15 (mI W 0 0 0))) := by
  have e : (mI W 0 0 0).1 0 19 = 0 := by rw [mI_At, if_neg (by decide), h19]; rfl
  simp only [s253_0, s253_1, s253_2, s253_5, s253_6, s253_9, s253_12, s253_13, s253_14, s253_15, s253_15r, s253_16, s253_19, s253_20, s253_21, s253_24, s253_25, s253_28, s253_31, s253_32, s253_35, s253_36, s253_39, s253_40, s253_42, s253_43, s253_44, s253_45, s253_48, s253_49, s253_52, s253_53, s253_56, nl_sti, nl_str, nl_ci, nl_cr, nl_nil, ld_cons, ld_st, lr_some, li_some, lj_some, n2_nl, n2_ci, n2_cr, n2_nil, n2_sti, n2_str, tl_some, tl_none, cat_le, List.length_cons, List.length_nil, Option.bind_some, Option.bind_none, Option.map_some, cond_true, cond_false, Bool.and_true, Bool.true_and, reduceIte, Nat.reduceEqDiff, Nat.reduceAdd, Nat.reduceLeDiff, Nat.zero_add, Nat.zero_le, Nat.zero_ne_one, Nat.one_ne_zero, Nat.reduceLT, true_or, or_true, false_or, or_false, false_and, true_and, and_false, and_true, not_false_eq_true, not_true_eq_false, eq_self, mA_A, mA_I, mI_A, mI_I, b01, b10, b01n, b10n, i10, i01, im0, ei_max, ei_min, ei_obj, n30, n20, b011, b101, orn, nor, dneg, dnle, dne, dcl, cat0, cat1, cat2, cat3, cat4, gM0, pM0, gM19, pM19, cM, hS, h19, nz0]
theorem M_undo (hS : ModSh sh a) {c st : Nat} (hc : c < 40) (hst : st < 40) (h19 : W.1 0 19 = nI (c + 1)) (h18 : W.1 0 18 = nI st) : evp sc (d + 1) 253 0 [(0, .ref a)] [] (mk sh (gl M a 15 (mR W 8 f))) = some (some (.int (nI c)), mk sh (gl M a 15 (mR (mI (mI W 0 0 0) 0 19 (nI c)) 8 (cpF (W.2.1 11) f (1922 * ((st + c) % 40)) 0 1922)))) := by
  have n40 : ((40 : Int32) = 0) = False := by decide
  have n0 : (nI (c + 1) = 0) = False := eq_false (nI_ne0 (by omega) (by omega))
  have e0 : (nI st + nI c) - (nI st + nI c) / 40 * 40 = nI ((st + c) % 40) := by rw [nI_add]; exact rem40 (by omega)
  have e3 : (1922 : Int32) * nI ((st + c) % 40) = nI (1922 * ((st + c) % 40)) := by rw [show (1922 : Int32) = nI 1922 from rfl, nI_mul]
  have t1 := M_copyRow (sc := sc) (d := d) (sh := sh) (M := M) (W := mR (mI (mI W 0 0 0) 0 19 (nI c)) 8 f) (a := a) (k1 := 11) (k2 := 8) (l1 := 76880) (l2 := 1922) (so := 1922 * ((st + c) % 40)) (dd := 0) (by decide) (fun W j => aM11 hS) (fun W j v => wM8 hS) (mR_o (by decide)) (mR_s _ _ _) (by omega) (by omega) (by decide) (by decide)
  rw [mR_mR, mI_A, mI_A, show nI 0 = (0 : Int32) from rfl] at t1
  simp only [s253_0, s253_1, s253_2, s253_5, s253_6, s253_9, s253_12, s253_13, s253_14, s253_15, s253_15r, s253_16, s253_19, s253_20, s253_21, s253_24, s253_25, s253_28, s253_31, s253_32, s253_35, s253_36, s253_39, s253_40, s253_42, s253_43, s253_44, s253_45, s253_48, s253_49, s253_52, s253_53, s253_56, nl_sti, nl_str, nl_ci, nl_cr, nl_nil, ld_cons, ld_st, lr_some, li_some, lj_some, n2_nl, n2_ci, n2_cr, n2_nil, n2_sti, n2_str, tl_some, tl_none, cat_le, List.length_cons, List.length_nil, Option.bind_some, Option.bind_none, Option.map_some, cond_true, cond_false, Bool.and_true, Bool.true_and, reduceIte, Nat.reduceEqDiff, Nat.reduceAdd, Nat.reduceLeDiff, Nat.zero_add, Nat.zero_le, Nat.zero_ne_one, Nat.one_ne_zero, Nat.reduceLT, true_or, or_true, false_or, or_false, false_and, true_and, and_false, and_true, not_false_eq_true, not_true_eq_false, eq_self, mA_A, mA_I, mI_A, mI_I, b01, b10, b01n, b10n, i10, i01, im0, ei_max, ei_min, ei_obj, n30, n20, b011, b101, orn, nor, dneg, dnle, dne, dcl, cat0, cat1, cat2, cat3, cat4, gM0, pM0, gM14, gM17, gM18, pM18, gM19, pM19, cM, hS, mR_I, mI_mR, h19, h18, n0, n40, nI_pred, e0, e3, t1]
theorem U_undo (hb : BusSh sh s tp sr a p o dr rf kk) (hp : PastSh sh p F) {z : Int32} (t : evp sc (d + 3) 54 0 [(0, .ref p), (1, .ref a)] [] (mk sh M) = some (some (.int z), h)) : evp sc (d + 4) 150 0 [(0, .ref s)] [] (mk sh M) = some (some (.int z), h) := by
  simp only [s150_0, s150_1, s150_4, s150_5, s150_8, s150_11, nl_sti, nl_str, nl_ci, nl_cr, nl_nil, ld_cons, ld_st, lr_some, li_some, lj_some, n2_nl, n2_ci, n2_cr, n2_nil, n2_sti, n2_str, tl_some, tl_none, cat_le, List.length_cons, List.length_nil, Option.bind_some, Option.bind_none, Option.map_some, cond_true, cond_false, Bool.and_true, Bool.true_and, reduceIte, Nat.reduceEqDiff, Nat.reduceAdd, Nat.reduceLeDiff, Nat.zero_add, Nat.zero_le, Nat.zero_ne_one, Nat.one_ne_zero, Nat.reduceLT, true_or, or_true, false_or, or_false, false_and, true_and, and_false, and_true, not_false_eq_true, not_true_eq_false, eq_self, mA_A, mA_I, mI_A, mI_I, b01, b10, b01n, b10n, i10, i01, im0, ei_max, ei_min, ei_obj, n30, n20, b011, b101, orn, nor, dneg, dnle, dne, dcl, cat0, cat1, cat2, cat3, cat4, Bu_g2 hb, Bu_g3 hb, Pa_c hp, t]
end
section
variable {sc sc2 : aS} {d d2 : Nat} {sh sh2 : List sE} {M M2 W : aM} {s tp sr a p o dr rf kk z a2 : Nat} {F : Nat → Option Nat} {f : Nat → Int32} {n dl bal lv t B c st st2 : Nat} {wl : Nat → List Sg} {al l : List (Nat → Int32)} {Ln : Nat → List (Option Se)}
theorem S_undo (h : Bg sh M W f s tp sr a p o dr rf kk z F n dl bal lv t B (c + 1) st st2 wl al l Ln) (hS2 : ModSh sh2 a2) :
    ∃ M' f2 t1 wl1 al1 l1 Ln1, evp sc (d + 4) 150 0 [(0, .ref s)] [] (mk sh M) = some (some (.int (nI c)), mk sh M') ∧ evp sc2 (d2 + 1) 253 0 [(0, .ref a2)] [] (mk sh2 (gl M2 a2 15 (mR W 8 f))) = some (some (.int (nI c)), mk sh2 (gl M2 a2 15 (mR (mI (mI W 0 0 0) 0 19 (nI c)) 8 f2))) ∧
      (∀ x, (x < a ∨ a + 31 ≤ x) → (¬ x = p → M'.1 x = M.1 x) ∧ M'.2.1 x = M.2.1 x) ∧ M'.2.2 = M.2.2 ∧ Bg sh M' (mI (mI W 0 0 0) 0 19 (nI c)) f2 s tp sr a p o dr rf kk z F n dl bal lv t1 B c st st2 wl1 al1 l1 Ln1 := by
  obtain ⟨b1, b2, b3, b4, b5, b6, b7, b8, b9, b10, b11, b12, b13, b14, b15, b16, b17, b18, b19, b20, b21, b22⟩ := h
  obtain ⟨b, t', wl', al', l', Ln', k1, k2, k3⟩ := b19 c (by omega)
  obtain ⟨g1, g2, g3⟩ := b4.1 _ b (Nat.mod_lt _ (by decide)) k1
  have e := B_some (sc := sc) (d := d) b3 (by omega) b13 b15 b16 k1 b2 g2 (by omega) b9
  have sF : ∀ i b, i < 40 → F i = some b → Sm M (gl (mI M p 1 (nI c)) a 31 (rCopy (lc (mI M p 1 (nI c)) a) (lc (mI M p 1 (nI c)) b))) b 31 := fun i b hi hb => (Sm_I (by have := (b4.1 i b hi hb).1; omega)).tr (Sm_gl (by have := (b4.1 i b hi hb).1; omega))
  have sF' : ∀ (X : aM) i b, i < 40 → F i = some b → Sm M (gl (mI M p 1 (nI c)) a 31 X) b 31 := fun X i b hi hb => (Sm_I (by have := (b4.1 i b hi hb).1; omega)).tr (Sm_gl (by have := (b4.1 i b hi hb).1; omega))
  have hTa : TdC (lc (mI M p 1 (nI c)) a) := (Sm_I b9 : Sm M (mI M p 1 (nI c)) a 31).td b17.td
  have hsb : Sm M (mI M p 1 (nI c)) b 31 := Sm_I (by omega)
  refine ⟨_, _, t', wl', al', l', Ln', U_undo b1 b3 e, M_undo hS2 (by omega) b14 b21 b22, fun x hx => ⟨fun q => ?_, ?_⟩, rfl, ⟨b1, b2, b3, b4.sm (sF' _), b5, b6, b7, b8, b9, b10, b11, by omega, b13, b14, ?_, ?_, S_anchor (g := fun j => W.2.1 11 (1922 * ((st2 + c) % 40) + j)) ((k3.sm hsb).cp hTa (fun j hj => ?_)), k2, ?_, ?_, mI_s _ _ _, ?_⟩⟩
  · have e1 : ∀ X : aM, (gl (mI M p 1 (nI c)) a 31 X).1 x = (mI M p 1 (nI c)).1 x := fun X => funext (fun j => gl_Io (by omega))
    rw [e1, mI_o q]
  · rw [gl_Ao (by omega)]; rfl
  · rw [gl_Io (by omega), mI_At, if_pos rfl]
  · rw [gl_Io (by omega), mI_At, if_neg (by decide)]; exact b16
  · have := cpF_in (g := W.2.1 11) (h := f) (so := 1922 * ((st2 + c) % 40)) (dd := 0) (i := 1922) hj
    rw [Nat.zero_add] at this
    exact this
  · exact KpR.sm (fun i hi => b19 i (by omega)) (Nat.le_refl _) (sF' _)
  · have := b20.thr (v := 0)
    unfold cW at this ⊢
    rw [mI_At, if_neg (by decide)]
    exact this
  · rw [mI_At, if_neg (by decide), mI_At, if_neg (by decide)]; exact b22
end
