/-! FIRST COME: both answer alike; and so the law holds from its start to its end -/
section
variable {sc : aS} {d : Nat}
theorem V_first : Cal sc (d + 80) 159 276 [] := Cal_q (fun sh M W B sh2 M2 h hB hS2 => by
  obtain ⟨F, kk, ⟨h1, hz⟩, h2, h3, h4, h5, h6⟩ := h
  obtain ⟨s1, s2, s3, s4, s5, s6, s7, s8, s9, s10, s11, s12, s13, s14, s15, s16, s17, s18, s19, s20⟩ := h1
  rcases h6 with h6 | ⟨n, dl, bal, lv, t, c, st, st2, wl, al, l, Ln, g1, g2, g3⟩
  · have r0 : e_gf (mk sh M) 41 5 0 = some (.int (M.1 41 0)) := Ro_0 s2
    have m0 := h6.2.1
    have w1 := h6.2.2.1
    have t1 : evp sc (d + 80) 159 0 [(0, .ref 32)] [] (mk sh M) = some (some (.int 0), mk sh M) := by
      simp only [s159_0, s159_1, s159_4, s159_7, s159_10, s159_11, s159_14, s159_15, s159_18, s159_21, s159_24, s159_25, s159_28, s159_29, nl_sti, nl_str, nl_ci, nl_cr, nl_nil, ld_cons, ld_st, lr_some, li_some, lj_some, n2_nl, n2_ci, n2_cr, n2_nil, n2_sti, n2_str, tl_some, tl_none, cat_le, List.length_cons, List.length_nil, Option.bind_some, Option.bind_none, Option.map_some, cond_true, cond_false, Bool.and_true, Bool.true_and, reduceIte, Nat.reduceEqDiff, Nat.reduceAdd, Nat.reduceLeDiff, Nat.zero_add, Nat.zero_le, Nat.zero_ne_one, Nat.one_ne_zero, Nat.reduceLT, true_or, or_true, false_or, or_false, false_and, true_and, and_false, and_true, not_false_eq_true, not_true_eq_false, eq_self, mA_A, mA_I, mI_A, mI_I, b01, b10, b01n, b10n, i10, i01, im0, ei_max, ei_min, ei_obj, n30, n20, b011, b101, orn, nor, dneg, dnle, dne, dcl, cat0, cat1, cat2, cat3, cat4, Bu_g2 s1, r0, m0]
    have t2 : evp sc (d + 80) 276 0 [(0, .ref 111)] [] (mk sh2 (gl M2 111 15 W)) = some (some (.int 0), mk sh2 (gl M2 111 15 (mI W 0 0 0))) := by
      simp only [s276_0, s276_1, s276_2, s276_5, s276_6, s276_9, s276_12, s276_13, s276_14, s276_15, s276_18, s276_19, s276_21, s276_22, s276_25, s276_28, s276_29, s276_31, s276_32, s276_35, s276_38, s276_39, s276_41, s276_42, s276_45, s276_46, s276_47, s276_48, s276_49, s276_52, s276_53, s276_57, s276_58, s276_61, s276_62, s276_63, s276_64, s276_65, s276_68, s276_69, s276_70, s276_71, s276_72, s276_74, s276_77, s276_80, s276_81, s276_82, s276_85, s276_91, s276_97, s276_103, s276_106, s276_107, nl_sti, nl_str, nl_ci, nl_cr, nl_nil, ld_cons, ld_st, lr_some, li_some, lj_some, n2_nl, n2_ci, n2_cr, n2_nil, n2_sti, n2_str, tl_some, tl_none, cat_le, List.length_cons, List.length_nil, Option.bind_some, Option.bind_none, Option.map_some, cond_true, cond_false, Bool.and_true, Bool.true_and, reduceIte, Nat.reduceEqDiff, Nat.reduceAdd, Nat.reduceLeDiff, Nat.zero_add, Nat.zero_le, Nat.zero_ne_one, Nat.one_ne_zero, Nat.reduceLT, true_or, or_true, false_or, or_false, false_and, true_and, and_false, and_true, not_false_eq_true, not_true_eq_false, eq_self, mA_A, mA_I, mI_A, mI_I, b01, b10, b01n, b10n, i10, i01, im0, ei_max, ei_min, ei_obj, n30, n20, b011, b101, orn, nor, dneg, dnle, dne, dcl, cat0, cat1, cat2, cat3, cat4, gM0, pM0, gM12, pM12, cM, hS2, mI_I, w1]
    exact QA_of t1 t2
  · obtain ⟨b1, b2, b3, b4, b5, b6, b7, b8, b9, b10, b11, b12, b13, b14, b15, b16, b17, b18, b19, b20, b21, b22⟩ := g1
    obtain ⟨ans, R', lt', ln', W', t1, t2, t3, t4⟩ := Q_first (sc := sc) (sc2 := sc) (d := d + 72) (d2 := d + 70) (M2 := M2) s1 s4 s2 (by decide) s15 s16 s17 (by decide) (by decide) (by decide) hS2 h5 b17 b20 b18 hB
    have f1 : FrX M (Om M 106 107 lt' ln') := ⟨fun x q => by unfold Om; rw [mR_o (by omega), mR_o (by omega)], fun _ _ => rfl, rfl, rfl, fun _ _ _ => ⟨rfl, rfl⟩⟩
    have h5' : TdC (lc (Om M 106 107 lt' ln') 75) := h5
    exact ⟨ans, _, W', t1, t2, f1.tr (FrX_ap h5' t4), ((Sm_R (x := 106) (by decide)).tr (Sm_R (x := 107) (by decide))).tr (Sm_gl (by decide)), t3⟩)
theorem law_whole (hs : sc.1 ≤ 3072) : ∃ h', evp sc (d + 81) 296 0 [(0, .ref 0)] [] [] = some (some (.int 1), h') := law_all V_first hs
end
