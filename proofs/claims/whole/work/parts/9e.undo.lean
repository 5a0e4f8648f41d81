/-! UNDO, IMAGE, BACK as calls -/
section
variable {sc sc2 : aS} {d d2 : Nat} {sh sh2 : List sE} {M M2 W R : aM} {a a2 b s tp sr p o dr rf kk : Nat}
theorem Bu_p7 (hb : BusSh sh s tp sr a p o dr rf kk) : e_pf (mk sh M) s 11 7 (.ref b) = some (mk (sh.set (s - 32) (.inl (11, [tp + 3, sr + 3, a + 3, p + 3, o + 3, dr + 3, rf + 3, b + 3, 0, 0]))) M) := by
  unfold e_pf
  rw [e_c_mk, hb.1]
  simp only [Option.map_some, mkc, Nat.beq_refl, mkfs_len, List.length_cons, List.length_nil, Nat.reduceAdd]
  have e1 : (true && Nat.blt 7 10 && e_fit (pTy 11 7) (.ref b)) = true := rfl
  rw [e1]
  simp only [cond_true]
  congr 1
  exact mk_set hb.1 rfl (fun _ _ _ => rfl)
theorem BusSh.wk (hb : BusSh sh s tp sr a p o dr rf kk) (hr : ¬ rf = s) : BusSh (sh.set (s - 32) (.inl (11, [tp + 3, sr + 3, a + 3, p + 3, o + 3, dr + 3, rf + 3, b + 3, 0, 0]))) s tp sr a p o dr rf (b + 3) := ⟨shp_set_s hb.1, shp_set_o (shp_ge hb.1).1 hb.2 hr⟩
theorem I_new (hb : BusSh sh s tp sr a p o dr rf 2) (ha : RowSh sh a) (hr : ¬ rf = s) (hs : s < a) (h0 : ¬ M.1 a 0 = 0) : evp sc (d + 3) 169 0 [(0, .ref s)] [] (mk sh M) = some (some (.int (M.1 a 6)), mk ((sh ++ rowS (32 + sh.length)).set (s - 32) (.inl (11, [tp + 3, sr + 3, a + 3, p + 3, o + 3, dr + 3, rf + 3, (32 + sh.length) + 3, 0, 0]))) (mI (gl M (32 + sh.length) 31 (rCopy R00 (lc M a))) s 8 1)) := by
  have hA31 := shp_ge (ha 30 (by decide))
  have hs32 := shp_ge hb.1
  have hN := RowSh_new sh
  have tn := N_row (sc := sc) (d := d) (h := mk sh M)
  rw [mk_len, mk_newrow] at tn
  have hb' : BusSh (sh ++ rowS (32 + sh.length)) s tp sr a p o dr rf 2 := hb.app
  have hs7 := Bu_p7 (M := gl M (32 + sh.length) 31 R00) (b := 32 + sh.length) hb'
  have hb2 : BusSh _ s tp sr a p o dr rf ((32 + sh.length) + 3) := hb'.wk (b := 32 + sh.length) hr
  have hN2 : RowSh ((sh ++ rowS (32 + sh.length)).set (s - 32) (.inl (11, [tp + 3, sr + 3, a + 3, p + 3, o + 3, dr + 3, rf + 3, (32 + sh.length) + 3, 0, 0]))) (32 + sh.length) := fun k hk => shp_set_o hs32.1 (hN k hk) (by omega)
  have hA2 : RowSh ((sh ++ rowS (32 + sh.length)).set (s - 32) (.inl (11, [tp + 3, sr + 3, a + 3, p + 3, o + 3, dr + 3, rf + 3, (32 + sh.length) + 3, 0, 0]))) a := fun k hk => shp_set_o hs32.1 (shp_app (ha k hk)) (by omega)
  have t1 := R_copy (sc := sc) (d := d) (M := M) (R := R00) hN2 hA2 (Or.inl (by omega))
  have hlen : (mk sh M).length = sh.length := mk_len _ _
  have e6 : (gl M (32 + sh.length) 31 (rCopy R00 (lc M a))).1 a 6 = M.1 a 6 := gl_Io (by omega)
  simp only [s169_0, s169_1, s169_4, s169_7, s169_10, s169_11, s169_12, s169_13, s169_16n, s169_16r, s169_19, s169_20, s169_23, s169_23r, s169_24, s169_27, s169_30, s169_31, s169_34, s169_35, s169_38, s169_41, s169_42, s169_43, s169_46, s169_47, s169_50, s169_53, nl_sti, nl_str, nl_ci, nl_cr, nl_nil, ld_cons, ld_st, lr_some, li_some, lj_some, n2_nl, n2_ci, n2_cr, n2_nil, n2_sti, n2_str, tl_some, tl_none, cat_le, List.length_cons, List.length_nil, Option.bind_some, Option.bind_none, Option.map_some, cond_true, cond_false, Bool.and_true, Bool.true_and, reduceIte, Nat.reduceEqDiff, Nat.reduceAdd, Nat.reduceLeDiff, Nat.zero_add, Nat.zero_le, Nat.zero_ne_one, Nat.one_ne_zero, Nat.reduceLT, true_or, or_true, false_or, or_false, false_and, true_and, and_false, and_true, not_false_eq_true, not_true_eq_false, eq_self, mA_A, mA_I, mI_A, mI_I, b01, b10, b01n, b10n, i10, i01, im0, ei_max, ei_min, ei_obj, n30, n20, b011, b101, orn, nor, dneg, dnle, dne, dcl, cat0, cat1, cat2, cat3, cat4, Bu_g2 hb, Bu_g2 hb2, Bu_g7n hb, Bu_g7 hb2, Bu_p8 hb2, Ro_0 ha, Ro_6 hA2, Ro_c hN2, h0, hlen, tn, hs7, t1, e6]
end
theorem ShOk.wk {sh : List sE} {F : Nat → Option Nat} {k b : Nat} (h : ShOk sh F k) : ShOk ((sh ++ rowS (32 + sh.length)).set (32 - 32) (.inl (11, [33 + 3, 38 + 3, 41 + 3, 72 + 3, 74 + 3, 109 + 3, 110 + 3, b + 3, 0, 0]))) F (b + 3) := by
  obtain ⟨h1, h2, h3, h4, h5, h6, h7, h8, h9, h10, h11, h12, h13, h14, h15, h16, h17, h18, h19, g, h20⟩ := h
  have o : ∀ {y : Nat} {s : sE}, shp sh y = some s → ¬ y = 32 → shp ((sh ++ rowS (32 + sh.length)).set (32 - 32) (.inl (11, [33 + 3, 38 + 3, 41 + 3, 72 + 3, 74 + 3, 109 + 3, 110 + 3, b + 3, 0, 0]))) y = some s := fun hy q => shp_set_o (x := 32) (by decide) (shp_app hy) q
  exact ⟨h1.app.wk (by decide), fun k hk => o (h2 k hk) (by omega), ⟨o h3.1 (by decide), o h3.2 (by decide)⟩, fun k hk => o (h4 k hk) (by omega), fun k hk => o (h5 k hk) (by omega), by rw [List.length_set, List.length_append]; omega, o h7 (by decide), o h8 (by decide), o h9 (by decide), o h10 (by decide), o h11 (by decide), o h12 (by decide), o h13 (by decide), o h14 (by decide), o h15 (by decide), o h16 (by decide), o h17 (by decide), o h18 (by decide), o h19 (by decide), g, o h20 (by decide)⟩
section
variable {sc : aS} {d : Nat}
theorem V_undo : Cal sc (d + 80) 150 253 [] := fun sh M B h hB => Cal_two h.mod (fun sh2 M2 hS2 => by
  have h' : IP sh M (lc M 111) B := h
  generalize lc M 111 = W at h' ⊢
  have hc := h'.cs
  have none : M.1 72 1 = 0 → W.1 0 19 = 0 → ∃ ans sh' M1 W', evp sc (d + 80) 150 0 [(0, .ref 32)] [] (mk sh M) = some (some (.int ans), mk sh' M1) ∧ evp sc (d + 80) 253 0 [(0, .ref 111)] [] (mk sh2 (gl M2 111 15 W)) = some (some (.int ans), mk sh2 (gl M2 111 15 W')) ∧ Sm M M1 111 15 ∧ IP sh' M1 W' (B + 1000000) := fun z1 z2 => by
    have hf := h'
    obtain ⟨F, kk, ⟨h1, hz⟩, -⟩ := h'
    exact ⟨-1, sh, M, mI W 0 0 0, U_undo (d := d + 76) h1.1 h1.2.2.1 (B_none h1.2.2.1 z1), M_undo_none hS2 z2, Sm.rf _ _ _, hf.fr (FrX.rf M) (FrY_thr W 0) (by omega)⟩
  obtain ⟨F, kk, ⟨h1, hz⟩, h2, h3, h4, h5, h6⟩ := h'
  rcases h6 with h6 | ⟨n, dl, bal, lv, t, c, st, st2, wl, al, l, Ln, g1, g2, g3⟩
  · exact none h6.2.2.2.2.2.2.1 h6.2.2.2.2.2.2.2.2.1
  · have bb := g1
    obtain ⟨b1, b2, b3, b4, b5, b6, b7, b8, b9, b10, b11, b12, b13, b14, b15, b16, b17, b18, b19, b20, b21, b22⟩ := bb
    cases c with
    | zero => exact none b15 b21
    | succ c =>
      obtain ⟨M', f2, t1, wl1, al1, l1, Ln1, q1, q2, q3, q4, q5⟩ := S_undo (sc := sc) (sc2 := sc) (d := d + 76) (d2 := d + 79) (M2 := M2) g1 hS2
      rw [mR_self] at q2
      have fr : ∀ x, (x < 41 ∨ 72 ≤ x) → ¬ x = 72 → M'.1 x = M.1 x ∧ M'.2.1 x = M.2.1 x := fun x z1 z2 => ⟨(q3 x z1).1 z2, (q3 x z1).2⟩
      have e0 : ∀ j, ¬ j = 0 → ¬ j = 19 → (mR (mI (mI W 0 0 0) 0 19 (nI c)) 8 f2).1 0 j = W.1 0 j := fun j z1 z2 => by
        rw [mR_I, mI_At, if_neg z2, mI_At, if_neg z1]
      have e1 : ∀ k, ¬ k = 8 → (mR (mI (mI W 0 0 0) 0 19 (nI c)) 8 f2).2.1 k = W.2.1 k := fun k z => mR_o z
      refine ⟨nI c, sh, M', _, q1, q2, fun x z1 z2 => fr x (by omega) (by omega), F, kk, ⟨h1, hz.mono (by omega)⟩, h2.of (by rw [(fr 33 (by decide) (by decide)).1]) (fr 34 (by decide) (by decide)).2 (e0 2 (by decide) (by decide)) (e1 1 (by decide)), h3.of (by rw [(fr 38 (by decide) (by decide)).1]) (fr 39 (by decide) (by decide)).2 (fr 40 (by decide) (by decide)).2 (e0 13 (by decide) (by decide)) (fun j _ => by rw [e1 6 (by decide)]) (fun j _ => by rw [e1 7 (by decide)]), ?_, ?_, Or.inr ⟨n, dl, bal, lv, t1, c, st, st2, wl1, al1, l1, Ln1, ?_, ?_, ?_⟩⟩
      · rw [(fr 110 (by decide) (by decide)).2, e1 5 (by decide)]
        exact h4
      · exact Sm.td (M := M) (fun x z1 z2 => fr x (by omega) (by omega)) h5
      · rw [mR_s]
        exact q5.of (Sm.rf _ _ _) rfl (fun _ _ _ _ => Sm.rf _ _ _) rfl rfl rfl (mR_o (by decide)) (mR_o (by decide)) (by omega)
      · rw [e1 3 (by decide)]
        exact g2
      · exact g3.of (by rw [(fr 32 (by decide) (by decide)).1]) (e0 20 (by decide) (by decide)) (e1 10 (by decide)) (fun b e x z1 z2 => fr x (by have := g3.ge b e; omega) (by have := g3.ge b e; omega)) (by omega))
theorem V_back : Cal sc (d + 80) 170 257 [] := fun sh M B h hB => Cal_two h.mod (fun sh2 M2 hS2 => by
  have h' : IP sh M (lc M 111) B := h
  generalize lc M 111 = W at h' ⊢
  have none : M.1 32 8 = 0 → W.1 0 20 = 0 → ∃ ans sh' M1 W', evp sc (d + 80) 170 0 [(0, .ref 32)] [] (mk sh M) = some (some (.int ans), mk sh' M1) ∧ evp sc (d + 80) 257 0 [(0, .ref 111)] [] (mk sh2 (gl M2 111 15 W)) = some (some (.int ans), mk sh2 (gl M2 111 15 W')) ∧ Sm M M1 111 15 ∧ IP sh' M1 W' (B + 1000000) := fun z1 z2 => by
    have hf := h'
    obtain ⟨F, kk, ⟨h1, hz⟩, -⟩ := h'
    exact ⟨-1, sh, M, mI W 0 0 0, Bk_none h1.1 z1, M_back_none hS2 z2, Sm.rf _ _ _, hf.fr (FrX.rf M) (FrY_thr W 0) (by omega)⟩
  obtain ⟨F, kk, ⟨h1, hz⟩, h2, h3, h4, h5, h6⟩ := h'
  rcases h6 with h6 | ⟨n, dl, bal, lv, t, c, st, st2, wl, al, l, Ln, g1, g2, g3⟩
  · exact none h6.2.2.2.2.2.2.2.2.2.1 h6.2.2.2.2.2.2.2.2.2.2.1
  · have i := g3
    obtain ⟨i1, i2, i3, i4⟩ := i
    rcases i2 with i2 | i2
    · exact none (i1.trans i2) i2
    · obtain ⟨b, t', wl', al', l', Ln', k1, k2, k3⟩ := i4 i2
      subst k1
      have hbr : 127 ≤ b ∧ RowSh sh b ∧ TdC (lc M b) ∧ ∀ i b', i < 40 → F i = some b' → b + 31 ≤ b' ∨ b' + 31 ≤ b := by
        rcases i3 with z | ⟨b', c1, c2⟩
        · omega
        · have : b' = b := by omega
          subst this
          exact c2
      obtain ⟨r1, r2, r3, r4⟩ := hbr
      obtain ⟨b1, b2, b3, b4, b5, b6, b7, b8, b9, b10, b11, b12, b13, b14, b15, b16, b17, b18, b19, b20, b21, b22⟩ := g1
      have h8 : ¬ M.1 32 8 = 0 := by rw [i1, i2]; decide
      have h20 : ¬ W.1 0 20 = 0 := by rw [i2]; decide
      have tc := Bk_some (sc := sc) (d := d + 77) (M := M) h1.1 h1.2.1 r2 h1.2.2.1 (Or.inl (by omega)) (by decide) h8
      have tr := M_back (sc := sc) (d := d + 79) (M := M2) (W := W) (f := W.2.1 8) hS2 h20
      rw [mR_self] at tr
      have e6 : M.1 b 6 = W.2.1 10 1552 := by
        have e1 : (lc M b).1 0 6 = nI t' := k3.1.1.2.2.2.2.2.2.1
        have e2 : W.2.1 10 1552 = nI t' := k3.1.2.2.2.2.2.1
        exact (show M.1 b 6 = nI t' from e1).trans e2.symm
      have e7 : cpF (W.2.1 10) (W.2.1 8) 0 0 1922 1552 = W.2.1 10 1552 := by
        have := cpF_in (g := W.2.1 10) (h := W.2.1 8) (so := 0) (dd := 0) (i := 1922) (j := 1552) (by decide)
        rw [Nat.zero_add] at this
        exact this
      rw [e7] at tr
      rw [e6] at tc
      have fr : ∀ X : aM, ∀ x, (x < 41 ∨ 72 ≤ x) → ¬ x = 72 → (mI (mI (gl M 41 31 X) 72 1 0) 72 2 0).1 x = M.1 x ∧ (mI (mI (gl M 41 31 X) 72 1 0) 72 2 0).2.1 x = M.2.1 x := fun X x z1 z2 => ⟨(mI_o z2).trans ((mI_o z2).trans (funext (fun j => gl_Io (by omega)))), gl_Ao (by omega)⟩
      have e0 : ∀ j, ¬ j = 0 → ¬ j = 19 → (mR (mI (mI W 0 0 0) 0 19 0) 8 (cpF (W.2.1 10) (W.2.1 8) 0 0 1922)).1 0 j = W.1 0 j := fun j z1 z2 => by
        rw [mR_I, mI_At, if_neg z2, mI_At, if_neg z1]
      have e1 : ∀ k, ¬ k = 8 → (mR (mI (mI W 0 0 0) 0 19 0) 8 (cpF (W.2.1 10) (W.2.1 8) 0 0 1922)).2.1 k = W.2.1 k := fun k z => mR_o z
      have sB : ∀ (X : aM) (x : Nat), 127 ≤ x → Sm M (mI (mI (gl M 41 31 X) 72 1 0) 72 2 0) x 31 := fun X x hx y z1 z2 => fr X y (by omega) (by omega)
      have hg : ∀ X : aM, Sm (gl M 41 31 X) (mI (mI (gl M 41 31 X) 72 1 0) 72 2 0) 41 31 := fun X => (Sm_I (by decide)).tr (Sm_I (by decide))
      refine ⟨_, sh, _, _, tc, tr, fun x z1 z2 => fr _ x (by omega) (by omega), F, b + 3, ⟨h1, hz.mono (by omega)⟩, h2.of (by rw [(fr _ 33 (by decide) (by decide)).1]) (fr _ 34 (by decide) (by decide)).2 (e0 2 (by decide) (by decide)) (e1 1 (by decide)), h3.of (by rw [(fr _ 38 (by decide) (by decide)).1]) (fr _ 39 (by decide) (by decide)).2 (fr _ 40 (by decide) (by decide)).2 (e0 13 (by decide) (by decide)) (fun j _ => by rw [e1 6 (by decide)]) (fun j _ => by rw [e1 7 (by decide)]), ?_, ?_, Or.inr ⟨n, dl, bal, lv, t', 0, 0, st2, wl', al', l', Ln', ⟨b1, b2, b3, b4.sm (fun i b' hi hb' => sB _ b' (b4.1 i b' hi hb').1), b5, b6, b7, b8, b9, b10, b11, by omega, by omega, b14, ?_, ?_, ?_, k2, KpR_0 _ _ _ _ _ _ _ _ _ _, b20.of (e0 12 (by decide) (by decide)) (e1 3 (by decide)), ?_, ?_⟩, ?_, ?_⟩⟩
      · rw [(fr _ 110 (by decide) (by decide)).2, e1 5 (by decide)]
        exact h4
      · exact Sm.td (M := M) (fun x z1 z2 => fr _ x (by omega) (by omega)) h5
      · rw [mI_At, if_neg (by decide), mI_At, if_pos rfl]; rfl
      · rw [mI_At, if_pos rfl]; rfl
      · rw [mR_s]
        refine RI.sm (S_anchor (g := W.2.1 10) ((k3.mono (show B ≤ B + 1000000 by omega)).cp b17.td (fun j hj => ?_))) (hg _)
        have := cpF_in (g := W.2.1 10) (h := W.2.1 8) (so := 0) (dd := 0) (i := 1922) hj
        rw [Nat.zero_add] at this
        exact this
      · rw [mR_I, mI_At, if_pos rfl]; rfl
      · exact (e0 18 (by decide) (by decide)).trans b22
      · rw [e1 3 (by decide)]
        exact g2
      · exact g3.of (by rw [(fr _ 32 (by decide) (by decide)).1]) (e0 20 (by decide) (by decide)) (e1 10 (by decide)) (fun b' e => sB _ b' (by omega)) (by omega))
theorem img_core {sh sh' : List sE} {M W X : aM} {F : Nat → Option Nat} {kk b n dl bal lv t B c st st2 : Nat} {wl : Nat → List Sg} {al l : List (Nat → Int32)} {Ln : Nat → List (Option Se)} (h2 : TpR M W) (h3 : ScR M W) (h4 : ∀ j, j < 4 → M.2.1 110 j = W.2.1 5 j) (h5 : TdC (lc M 75)) (g : Rw sh M W F kk B n dl bal lv t c st st2 wl al l Ln) (hO : ShOk sh' F (b + 3)) (hzz : Sz sh' F (b + 3) (B + 1000000)) (hG : Geo sh' M F 127) (hb : 127 ≤ b) (hap : ∀ i b', i < 40 → F i = some b' → b + 31 ≤ b' ∨ b' + 31 ≤ b) (hN : RowSh sh' b) (hX : TdC X) : IP sh' (mI (gl M b 31 (rCopy X (lc M 41))) 32 8 1) (mR (mI (mR (mI W 0 0 0) 10 (cpF (W.2.1 8) (W.2.1 10) 0 0 1922)) 0 20 1) 8 (W.2.1 8)) (B + 1000000) := by
  obtain ⟨g1, g2, g3⟩ := g
  obtain ⟨b1, b2, b3, b4, b5, b6, b7, b8, b9, b10, b11, b12, b13, b14, b15, b16, b17, b18, b19, b20, b21, b22⟩ := g1
  have fr : ∀ x, (x < b ∨ b + 31 ≤ x) → ¬ x = 32 → (mI (gl M b 31 (rCopy X (lc M 41))) 32 8 1).1 x = M.1 x ∧ (mI (gl M b 31 (rCopy X (lc M 41))) 32 8 1).2.1 x = M.2.1 x := fun x z1 z2 => ⟨(mI_o z2).trans (funext (fun j => gl_Io (by omega))), gl_Ao (by omega)⟩
  have e0 : ∀ j, ¬ j = 0 → ¬ j = 20 → (mR (mI (mR (mI W 0 0 0) 10 (cpF (W.2.1 8) (W.2.1 10) 0 0 1922)) 0 20 1) 8 (W.2.1 8)).1 0 j = W.1 0 j := fun j z1 z2 => by
    rw [mR_I, mI_At, if_neg z2, mR_I, mI_At, if_neg z1]
  have e1 : ∀ k, ¬ k = 10 → (mR (mI (mR (mI W 0 0 0) 10 (cpF (W.2.1 8) (W.2.1 10) 0 0 1922)) 0 20 1) 8 (W.2.1 8)).2.1 k = W.2.1 k := fun k z => by
    by_cases q : k = 8
    · subst q; rw [mR_s]
    · rw [mR_o q, mI_A, mR_o z, mI_A]
  have e10 : (mR (mI (mR (mI W 0 0 0) 10 (cpF (W.2.1 8) (W.2.1 10) 0 0 1922)) 0 20 1) 8 (W.2.1 8)).2.1 10 = cpF (W.2.1 8) (W.2.1 10) 0 0 1922 := by
    rw [mR_o (by decide), mI_A, mR_s]
  have e20 : (mR (mI (mR (mI W 0 0 0) 10 (cpF (W.2.1 8) (W.2.1 10) 0 0 1922)) 0 20 1) 8 (W.2.1 8)).1 0 20 = 1 := by
    rw [mR_I, mI_At, if_pos rfl]
  have sF : ∀ i b', i < 40 → F i = some b' → Sm M (mI (gl M b 31 (rCopy X (lc M 41))) 32 8 1) b' 31 := fun i b' hi hb' y z1 z2 => fr y (by have := hap i b' hi hb'; omega) (by have := (b4.1 i b' hi hb').1; omega)
  have s32 : (mI (gl M b 31 (rCopy X (lc M 41))) 32 8 1).1 32 8 = 1 := by rw [mI_At, if_pos rfl]
  have hgl : Sm (gl M b 31 (rCopy X (lc M 41))) (mI (gl M b 31 (rCopy X (lc M 41))) 32 8 1) b 31 := Sm_I (by omega)
  have hlen := hO.2.2.2.2.2.1
  refine ⟨F, b + 3, ⟨hO, hzz⟩, h2.of (by rw [(fr 33 (by omega) (by decide)).1]) (fr 34 (by omega) (by decide)).2 (e0 2 (by decide) (by decide)) (e1 1 (by decide)), h3.of (by rw [(fr 38 (by omega) (by decide)).1]) (fr 39 (by omega) (by decide)).2 (fr 40 (by omega) (by decide)).2 (e0 13 (by decide) (by decide)) (fun j _ => by rw [e1 6 (by decide)]) (fun j _ => by rw [e1 7 (by decide)]), ?_, ?_, Or.inr ⟨n, dl, bal, lv, t, c, st, st2, wl, al, l, Ln, ⟨hO.1, hO.2.1, hO.2.2.1, hG.sm sF, hlen, b6, b7, b8, b9, b10, b11, b12, b13, b14, ?_, ?_, ?_, b18, ?_, b20.of (e0 12 (by decide) (by decide)) (e1 3 (by decide)), (e0 19 (by decide) (by decide)).trans b21, (e0 18 (by decide) (by decide)).trans b22⟩, ?_, ?_⟩⟩
  · rw [(fr 110 (by omega) (by decide)).2, e1 5 (by decide)]
    exact h4
  · exact Sm.td (M := M) (fun x z1 z2 => fr x (by omega) (by omega)) h5
  · rw [(fr 72 (by omega) (by decide)).1]; exact b15
  · rw [(fr 72 (by omega) (by decide)).1]; exact b16
  · rw [e1 8 (by decide)]
    exact (b17.sm (fun y z1 z2 => fr y (by omega) (by omega))).mono (by omega)
  · rw [e1 11 (by decide)]
    exact b19.sm (by omega) sF
  · rw [e1 3 (by decide)]
    exact g2
  · refine ⟨s32.trans e20.symm, Or.inr e20, Or.inr ⟨b, rfl, hb, hN, hgl.td (TdC_of (rCopy_td _ _ hX) (gl1 _ _ _)), hap⟩, fun _ => ⟨b, t, wl, al, l, Ln, rfl, b18, ?_⟩⟩
    rw [e10]
    refine RI.sm (S_anchor (g := W.2.1 8) ((b17.mono (show B ≤ B + 1000000 by omega)).cp hX (fun j hj => ?_))) hgl
    have := cpF_in (g := W.2.1 8) (h := W.2.1 10) (so := 0) (dd := 0) (i := 1922) hj
    rw [Nat.zero_add] at this
    exact this
theorem V_image : Cal sc (d + 80) 169 256 [] := fun sh M B h hB => Cal_two h.mod (fun sh2 M2 hS2 => by
  have h' : IP sh M (lc M 111) B := h
  generalize lc M 111 = W at h' ⊢
  have hf := h'
  obtain ⟨F, kk, ⟨h1, hz⟩, h2, h3, h4, h5, h6⟩ := h'
  rcases h6 with h6 | ⟨n, dl, bal, lv, t, c, st, st2, wl, al, l, Ln, g⟩
  · exact ⟨-1, sh, M, mI W 0 0 0, I_none h1.1 h1.2.1 h6.2.1, M_image_none hS2 h6.2.2.1, Sm.rf _ _ _, hf.fr (FrX.rf M) (FrY_thr W 0) (by omega)⟩
  · have g' := g
    obtain ⟨g1, g2, g3⟩ := g'
    obtain ⟨b1, b2, b3, b4, b5, b6, b7, b8, b9, b10, b11, b12, b13, b14, b15, b16, b17, b18, b19, b20, b21, b22⟩ := g1
    have hn2 : 2 ≤ n := b17.1.2.2.2.2.2.2.1
    have hn8 : n ≤ 8 := b17.1.1.2.1
    have m0 : M.1 41 0 = nI n := b17.1.1.1
    have h0 : ¬ M.1 41 0 = 0 := by rw [m0]; exact nI_ne0 (by omega) (by omega)
    have w0 : ¬ W.1 0 12 = 0 := by rw [b20.1]; exact nI_ne0 (by omega) (by omega)
    have m6 : M.1 41 6 = W.2.1 8 1552 := by
      have e1 : (lc M 41).1 0 6 = nI t := b17.1.1.2.2.2.2.2.2.1
      exact (show M.1 41 6 = nI t from e1).trans b17.1.2.2.2.2.2.1.symm
    have tr := M_image (sc := sc) (d := d + 79) (M := M2) (W := W) (f := W.2.1 8) hS2 w0
    rw [mR_self] at tr
    rcases g3.2.2.1 with rfl | ⟨b, rfl, c2, c3, c4, c5⟩
    · have tc := I_new (sc := sc) (d := d + 77) (M := M) h1.1 h1.2.1 (by decide) (by decide) h0
      rw [m6] at tc
      refine ⟨_, _, _, _, tc, tr, ?_, img_core (kk := 2) h2 h3 h4 h5 g h1.wk ?_ ?_ ?_ ?_ ?_ TdC_00⟩
      · have := h1.2.2.2.2.2.1
        exact fun x z1 z2 => ⟨(mI_o (by omega)).trans (funext (fun j => gl_Io (by omega))), gl_Ao (by omega)⟩
      · obtain ⟨z1, z2⟩ := hz
        have e1 : ((sh ++ rowS (32 + sh.length)).set (32 - 32) (.inl (11, [33 + 3, 38 + 3, 41 + 3, 72 + 3, 74 + 3, 109 + 3, 110 + 3, (32 + sh.length) + 3, 0, 0]))).length = sh.length + 31 := by
          rw [List.length_set, List.length_append]; rfl
        have e2 : hzS ((sh ++ rowS (32 + sh.length)).set (32 - 32) (.inl (11, [33 + 3, 38 + 3, 41 + 3, 72 + 3, 74 + 3, 109 + 3, 110 + 3, (32 + sh.length) + 3, 0, 0]))) = hzS sh + 2215 := by
          have hx := shp_app (t := rowS (32 + sh.length)) h1.1.1
          unfold shp at hx
          simp only [show Nat.blt 32 32 = false from rfl, cond_false] at hx
          refine (hzS_set hx (by rfl)).trans ?_
          rw [hzS_app, hzS_row]
        have k1 : kN 2 = 0 := rfl
        have k2 : kN (32 + sh.length + 3) = 1 := if_neg (by omega)
        have := Nat.div_le_div_right (c := 1000000) (show B ≤ B + 1000000 by omega)
        unfold Sz
        rw [e1, e2, k2]
        rw [k1] at z1 z2
        exact ⟨by omega, by omega⟩
      · exact ⟨fun i b' hi hb' => ⟨(b4.1 i b' hi hb').1, fun k hk => shp_set_o (x := 32) (by decide) (shp_app ((b4.1 i b' hi hb').2.1 k hk)) (by have := (b4.1 i b' hi hb').1; omega), (b4.1 i b' hi hb').2.2⟩, b4.2⟩
      · exact h1.2.2.2.2.2.1
      · intro i b' hi hb'
        have := shp_ge ((b4.1 i b' hi hb').2.1 30 (by decide))
        omega
      · have := h1.2.2.2.2.2.1
        exact fun k hk => shp_set_o (x := 32) (by decide) (RowSh_new sh k hk) (by omega)
    · have tc := I_old (sc := sc) (d := d + 77) (M := M) h1.1 h1.2.1 c3 (Or.inl (by omega)) (by decide) h0
      rw [m6] at tc
      refine ⟨_, _, _, _, tc, tr, ?_, img_core h2 h3 h4 h5 g h1 (hz.mono (by omega)) b4 c2 c5 c3 c4⟩
      exact fun x z1 z2 => ⟨(mI_o (by omega)).trans (funext (fun j => gl_Io (by omega))), gl_Ao (by omega)⟩)
end
