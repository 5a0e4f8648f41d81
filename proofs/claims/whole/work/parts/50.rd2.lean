theorem FrS.tr {R R' R'' : aM} {P P' P'' : aP} (h1 : FrS R R' P P') (h2 : FrS R' R'' P' P'') : FrS R R'' P P'' := ⟨h2.1.trans h1.1, fun j p q => (h2.2.1 j p q).trans (h1.2.1 j p q), h2.2.2.1.trans h1.2.2.1, h2.2.2.2.1.trans h1.2.2.2.1, h2.2.2.2.2.trans h1.2.2.2.2⟩
theorem FrS.rf (R : aM) (P : aP) : FrS R R P P := ⟨rfl, fun _ _ _ => rfl, rfl, rfl, rfl⟩
theorem S_erase {R : aM} {P : aP} {n dl bal lv t B s : Nat} {wl : Nat → List Sg} {al : List (Nat → Int32)} {lg : LgT} {LL : List (Int32 × Int32)} {e : Se} (h : Co R P n dl bal lv t B wl al lg LL) (hc : cS R e) (hm : mS P.1 e) (hz : zOk e) :
    ∃ e', Co (rErase R s) (vE P s) n dl bal lv t B wl al lg LL ∧ cS (rErase R s) e' ∧ mS (vE P s).1 e' ∧ zOk e' ∧ (rErase R s).1 19 4 = R.1 19 4 ∧ (rErase R s).1 19 1 = R.1 19 1 ∧ ur e' = ur e ∧ FrS R (rErase R s) P (vE P s) ∧ zA e' = zA e ∧ zW e' = zW e ∧ (e' = e ∨ (zN e' = 0 ∧ ur e = 0)) ∧ Still P.2 (vE P s).2 := by
  obtain ⟨c1, c2, c3, c4, c5⟩ := hc
  obtain ⟨m1, m2, m3, m4, m5⟩ := hm
  obtain ⟨z1, z2, z3, z4, z5, z6, z7⟩ := hz
  have hbit : R.1 0 4 = P.2 1551 := h.1.2.2.2.1
  have keep : rErase R s = R → vE P s = P → ∃ e', Co (rErase R s) (vE P s) n dl bal lv t B wl al lg LL ∧ cS (rErase R s) e' ∧ mS (vE P s).1 e' ∧ zOk e' ∧ (rErase R s).1 19 4 = R.1 19 4 ∧ (rErase R s).1 19 1 = R.1 19 1 ∧ ur e' = ur e ∧ FrS R (rErase R s) P (vE P s) ∧ zA e' = zA e ∧ zW e' = zW e ∧ (e' = e ∨ (zN e' = 0 ∧ ur e = 0)) ∧ Still P.2 (vE P s).2 := by
    intro q1 q2
    rw [q1, q2]
    exact ⟨e, h, ⟨c1, c2, c3, c4, c5⟩, ⟨m1, m2, m3, m4, m5⟩, ⟨z1, z2, z3, z4, z5, z6, z7⟩, rfl, rfl, rfl, FrS.rf _ _, rfl, rfl, Or.inl rfl, fun _ _ => rfl⟩
  by_cases r0 : zR e = 0
  · refine keep ?_ ?_
    · unfold rErase
      rw [if_pos (by rw [c2, r0]; rfl)]
    · unfold vE
      rw [if_pos (Or.inr (Or.inl (by rw [m2, r0]; decide)))]
  · have r1 : zR e = 1 := by omega
    have n0 : ¬ zN e = 0 := fun q => r0 (z6 q)
    have hr : ¬ R.1 30 6 = 0 := by rw [c2, r1]; decide
    by_cases hb : (R.1 0 4 >>> (nI s &&& 31)) &&& 1 = 0
    · refine keep ?_ ?_
      · unfold rErase
        rw [if_neg hr, if_pos hb]
      · unfold vE
        rw [if_pos (Or.inr (Or.inr (by rw [← hbit]; exact hb)))]
    · have e1 : rErase R s = mI (slEmpty R) 19 3 (R.1 19 3 + 1) := by
        unfold rErase
        rw [if_neg hr, if_neg hb]
      have e2 : vE P s = (mI (mI P.1 0 22 0) 0 26 0, up P.2 1557 (P.2 1557 + 1)) := by
        unfold vE
        refine if_neg (fun q => ?_)
        rcases q with q | q | q
        · rw [m1] at q; exact Int32.not_le.mpr (z7 n0) q
        · exact q (by rw [m2, r1]; rfl)
        · exact hb (by rw [hbit]; exact q)
      have hu : ur e = 0 := by unfold ur; rw [if_pos (Or.inr r0)]
      rw [e1, e2]
      obtain ⟨a1, a2, a3, a4, a5, a6, a7, a8, a9, a10⟩ := h
      obtain ⟨⟨m, b1, b2, b3⟩, b4, b5, b6, b7⟩ := a3
      have hI : ∀ k, ¬ k = 19 → ¬ k = 30 → (mI (slEmpty R) 19 3 (R.1 19 3 + 1)).1 k = R.1 k := fun k p q => by
        rw [mI_o p]; unfold slEmpty; rw [mI_o q, mI_o q]
      have hJ : ∀ k, ¬ k = 3 → (mI (slEmpty R) 19 3 (R.1 19 3 + 1)).1 19 k = R.1 19 k := fun k p => by
        rw [mI_At, if_neg p]; unfold slEmpty; rw [mI_o (by decide), mI_o (by decide)]
      have hW : FrW P.1 (mI (mI P.1 0 22 0) 0 26 0) := ⟨rfl, by simp [mI, up2], by simp [mI, up2], by simp [mI, up2]⟩
      refine ⟨(0, zF e, zT e, zB e, 0, zA e, zW e, zL e), ⟨a1.cg (hI 0 (by decide) (by decide)) (show up P.2 1557 (P.2 1557 + 1) 1550 = P.2 1550 from up_o (by decide)) (show up P.2 1557 (P.2 1557 + 1) 1551 = P.2 1551 from up_o (by decide)) (show up P.2 1557 (P.2 1557 + 1) 1552 = P.2 1552 from up_o (by decide)), a2.cg hW, ⟨⟨m, b1, by rw [hJ 0 (by decide)]; exact b2, ?_⟩, ?_, ?_, ?_, ?_⟩, a4.cg (fun _ _ _ => rfl) (fun j p q => up_o (by omega)) (fun j p q => up_o (by omega)), a5.cg (Nat.le_refl _) (fun _ _ _ => rfl) (fun l k p q _ => up_o (by omega)), a6.cg (hI 5 (by decide) (by decide)) (fun _ _ _ => rfl) (fun j p => up_o (by omega)) (fun l p => up_o (by omega)), a7.cg (Nat.le_refl _) (fun _ _ _ => rfl) (fun j p q => up_o (by omega)), a8.cg (hI 28 (by decide) (by decide)) rfl (fun i hi => up_o (by omega)), a9.cg (hI 26 (by decide) (by decide)) rfl (fun i hi => up_o (by omega)), a10.cg hW⟩, ⟨?_, ?_, ?_, ?_, fun q => absurd rfl q⟩, ⟨?_, ?_, ?_, ?_, fun q => absurd rfl q⟩, ⟨z1, z2, (show 0 < 2 by decide), z4, z5, fun _ => rfl, fun q => absurd rfl q⟩, hJ 4 (by decide), hJ 1 (by decide), ?_, ⟨rfl, fun j p q => up_o (by omega), ?_, by simp [mI, up2], by simp [mI, up2]⟩, rfl, rfl, Or.inr ⟨rfl, hu⟩, fun j hj => up_o (by omega)⟩
      · show up P.2 1557 (P.2 1557 + 1) 1553 = _; rw [up_o (by decide)]; exact b3
      · show _ = up P.2 1557 (P.2 1557 + 1) 1554; rw [hJ 1 (by decide), up_o (by decide)]; exact b4
      · show _ = up P.2 1557 (P.2 1557 + 1) 1555; rw [hJ 2 (by decide), up_o (by decide)]; exact b5
      · show _ = up P.2 1557 (P.2 1557 + 1) 1557; rw [mI_At, if_pos rfl, up_s, b6]
      · show _ = up P.2 1557 (P.2 1557 + 1) 1556; rw [hJ 5 (by decide), up_o (by decide)]; exact b7
      · simp [slEmpty, mI, up2]
      · simp [slEmpty, mI, up2]; rfl
      · simp [slEmpty, mI, up2]; exact c3
      · simp [slEmpty, mI, up2]; exact c4
      · simp [mI, up2]
      · simp [mI, up2]; rfl
      · simp [mI, up2]; exact m3
      · simp [mI, up2]; exact m4
      · rw [hu]; unfold ur; rw [if_pos (Or.inl rfl)]
      · simp [slEmpty, mI, up2]
theorem S_read {R : aM} {P : aP} {n dl bal lv t B s U : Nat} {wl : Nat → List Sg} {al : List (Nat → Int32)} {lg : LgT} {LL : List (Int32 × Int32)} {e : Se} (h : Co R P n dl bal lv t B wl al lg LL) (hs : s < 8) (hc : cS R e) (hm : mS P.1 e) (hz : zOk e) (hU : R.1 19 4 = nI U) (hUe : ur e ≤ U) (hLL : LL.length < 3300) :
    ∃ nw e' U', Co (rReadAt R s) (vE (vA P s) s) n dl bal lv t B wl (nw.foldl RgA_p al) lg (LL ++ nw.map (fun x => (x 0, P.1.1 0 32))) ∧ cS (rReadAt R s) e' ∧ mS (vE (vA P s) s).1 e' ∧ zOk e' ∧ (rReadAt R s).1 19 4 = nI U' ∧ U' + ur e = U + ur e' ∧ FrS R (rReadAt R s) P (vE (vA P s) s) ∧ (rReadAt R s).1 19 1 = R.1 19 1 + nI nw.length ∧ zA e' = zA e ∧ zW e' = zW e ∧
    Still P.2 (vE (vA P s) s).2 ∧ ((nw = [] ∧ (e' = e ∨ (zN e' = 0 ∧ ur e = 0))) ∨ (∃ x, nw = [x] ∧ ur e = 1 ∧ ur e' = 0 ∧ x 0 = zN e ∧ x 1 = nI (zF e) ∧ x 2 = nI (zT e) ∧ x 4 = zL e)) := by
  have hc0 := hc
  have hm0 := hm
  have hz0 := hz
  obtain ⟨c1, c2, c3, c4, c5⟩ := hc
  obtain ⟨m1, m2, m3, m4, m5⟩ := hm
  obtain ⟨z1, z2, z3, z4, z5, z6, z7⟩ := hz
  have skip : rReadAt R s = rErase R s → vA P s = P → ∃ nw e' U', Co (rReadAt R s) (vE (vA P s) s) n dl bal lv t B wl (nw.foldl RgA_p al) lg (LL ++ nw.map (fun x => (x 0, P.1.1 0 32))) ∧ cS (rReadAt R s) e' ∧ mS (vE (vA P s) s).1 e' ∧ zOk e' ∧ (rReadAt R s).1 19 4 = nI U' ∧ U' + ur e = U + ur e' ∧ FrS R (rReadAt R s) P (vE (vA P s) s) ∧ (rReadAt R s).1 19 1 = R.1 19 1 + nI nw.length ∧ zA e' = zA e ∧ zW e' = zW e ∧
      Still P.2 (vE (vA P s) s).2 ∧ ((nw = [] ∧ (e' = e ∨ (zN e' = 0 ∧ ur e = 0))) ∨ (∃ x, nw = [x] ∧ ur e = 1 ∧ ur e' = 0 ∧ x 0 = zN e ∧ x 1 = nI (zF e) ∧ x 2 = nI (zT e) ∧ x 4 = zL e)) := by
    intro q1 q2
    rw [q1, q2]
    obtain ⟨e', k1, k2, k3, k4, k5, k6, k7, k8, k9, k10, k11, k12⟩ := S_erase (s := s) h hc0 hm0 hz0
    refine ⟨[], e', U, ?_, k2, k3, k4, by rw [k5]; exact hU, by rw [k7], k8, ?_, k9, k10, k12, Or.inl ⟨rfl, k11⟩⟩
    · rw [List.map_nil, List.append_nil]; exact k1
    · rw [k6, List.length_nil]; exact (Int32.add_zero _).symm
  by_cases n0 : zN e = 0
  · refine skip ?_ ?_
    · unfold rReadAt
      rw [if_pos (Or.inl (Or.inl (by rw [c1, n0])))]
    · unfold vA
      rw [if_pos (Or.inl (by rw [m1, n0]; decide))]
  obtain ⟨c51, c52, c53, c54⟩ := c5 n0
  obtain ⟨m51, m52, m53⟩ := m5 n0
  by_cases r0 : zR e = 0
  · by_cases t0 : zT e = s
    · have e1 : rReadAt R s = rErase (rDeliver R s (R.1 30 2).toNatClampNeg (tdPl (tdOpen R 28) 28 0).toNatClampNeg) s := by
        unfold rReadAt
        refine if_neg (fun q => ?_)
        rcases q with (q | q) | q
        · exact n0 (c1.symm.trans q)
        · exact q (by rw [c2, r0]; rfl)
        · exact q (by rw [c52, t0])
      have e2 : vA P s = mArr P s := by
        unfold vA
        refine if_neg (fun q => ?_)
        rcases q with q | q | q
        · rw [m1] at q; exact Int32.not_le.mpr (z7 n0) q
        · exact q (by rw [m2, r0]; rfl)
        · exact q (by rw [m52, t0])
      have hu : ur e = 1 := by unfold ur; rw [if_neg (fun q => q.elim n0 (fun q => q r0))]
      obtain ⟨x, x0, x1, x2, x4, hC⟩ := S_deliver h hs hc0 hm0 hz0 n0 hLL
      rw [e1, e2]
      generalize hPp : (tdPl (tdOpen R 28) 28 0).toNatClampNeg = Pp at hC ⊢
      generalize hfr : (R.1 30 2).toNatClampNeg = fr at hC ⊢
      have hc1 : cS (rDeliver R s fr Pp) (zN e, zF e, zT e, zB e, 1, zA e, zW e, zL e) := by
        refine ⟨?_, ?_, ?_, ?_, fun _ => ⟨?_, ?_, ?_, ?_⟩⟩
        · rw [rDeliver_30, if_neg (by decide)]; exact c1
        · rw [rDeliver_30, if_pos rfl]; rfl
        · rw [rDeliver_30, if_neg (by decide)]; exact c3
        · rw [rDeliver_30, if_neg (by decide)]; exact c4
        · rw [rDeliver_30, if_neg (by decide)]; exact c51
        · rw [rDeliver_30, if_neg (by decide)]; exact c52
        · rw [rDeliver_30, if_neg (by decide)]; exact c53
        · rw [rDeliver_30, if_neg (by decide)]; exact c54
      have hm1 : mS (mArr P s).1 (zN e, zF e, zT e, zB e, 1, zA e, zW e, zL e) := by
        refine ⟨?_, ?_, ?_, ?_, fun _ => ⟨?_, ?_, ?_⟩⟩
        · simp [mArr, mA, mI, up2]; exact m1
        · simp [mArr, mA, mI, up2]; rfl
        · simp [mArr, mA, mI, up2]; exact m3
        · simp [mArr, mA, mI, up2]; exact m4
        · simp [mArr, mA, mI, up2]; exact m51
        · simp [mArr, mA, mI, up2]; exact m52
        · simp [mArr, mA, mI, up2]; exact m53
      have hz1 : zOk (zN e, zF e, zT e, zB e, 1, zA e, zW e, zL e) := ⟨z1, z2, (show 1 < 2 by decide), z4, z5, fun q => absurd q n0, fun _ => z7 n0⟩
      have hF1 : FrS R (rDeliver R s fr Pp) P (mArr P s) := by
        refine ⟨?_, fun j p q => ?_, ?_, ?_, ?_⟩
        · rw [rDeliver_Ao (by decide), tDeliv_A (by decide) (by decide) (by decide) (by decide)]; rfl
        · show mCame _ _ _ _ _ j = _
          have hff : (P.1.1 0 23).toNatClampNeg = zF e := by rw [m51]; exact nI_clamp (by omega)
          rw [mCame_o (by omega), hff, mArF_o (by omega) (by omega) (by omega) (by omega) (by omega) (by omega)]
        · rw [rDeliver_30, if_neg (by decide)]
        · simp [mArr, mA, mI, up2]
        · simp [mArr, mA, mI, up2]
      obtain ⟨e', k1, k2, k3, k4, k5, k6, k7, k8, k9, k10, k11, k12⟩ := S_erase (s := s) hC hc1 hm1 hz1
      have hst : Still P.2 (mArr P s).2 := by
        intro j hj
        show mCame _ _ _ _ _ j = _
        have hff : (P.1.1 0 23).toNatClampNeg = zF e := by rw [m51]; exact nI_clamp (by omega)
        rw [mCame_o (by omega), hff, mArF_o (by omega) (by omega) (by omega) (by omega) (by omega) (by omega)]
      have hu1 : ur (zN e, zF e, zT e, zB e, 1, zA e, zW e, zL e) = 0 := by unfold ur; rw [if_pos (Or.inr (show ¬ (1 : Nat) = 0 by decide))]
      have d := tDeliv_19 (R := mI R 30 6 1) (f := fr) (t := s) (w := R.1 0 6 - R.1 30 5)
      refine ⟨[x], e', U - 1, k1, k2, k3, k4, ?_, ?_, hF1.tr k8, ?_, k9, k10, hst.tr k12, Or.inr ⟨x, rfl, hu, by rw [k7, hu1], x0, x1, by rw [x2, t0], x4⟩⟩
      · rw [k5, rDeliver_19, d.2.2.2.2.1, mI_o (by decide), hU, show U = U - 1 + 1 by omega, nI_pred]; rfl
      · rw [k7, hu1, hu]; omega
      · rw [k6, rDeliver_19, d.2.1, mI_o (by decide)]; rfl
    · refine skip ?_ ?_
      · unfold rReadAt
        rw [if_pos (Or.inr (by rw [c52]; exact fun q => t0 ((nI_eq (by omega) (by omega)).mp q)))]
      · unfold vA
        rw [if_pos (Or.inr (Or.inr (by rw [m52]; exact fun q => t0 ((nI_eq (by omega) (by omega)).mp q))))]
  · refine skip ?_ ?_
    · unfold rReadAt
      rw [if_pos (Or.inl (Or.inr (by rw [c2]; exact nI_ne0 (by omega) (by omega))))]
    · unfold vA
      rw [if_pos (Or.inr (Or.inl (by rw [m2]; exact nI_ne0 (by omega) (by omega))))]
/-- a new slot -/
theorem cS_begin (R : aM) (e : Se) : cS (slBegin R) (0, zF e, zT e, zB e, 0, 0, 0, zL e) := by
  refine ⟨?_, ?_, ?_, ?_, fun q => absurd rfl q⟩ <;> simp [slBegin, slEmpty, mI, up2] <;> rfl
theorem mS_fresh (W : aM) (e : Se) : mS (mFresh W) (0, zF e, zT e, zB e, 0, 0, 0, zL e) := by
  refine ⟨?_, ?_, ?_, ?_, fun q => absurd rfl q⟩ <;> simp [mFresh, mI, up2] <;> rfl
theorem slBegin_I {R : aM} {k : Nat} (h : ¬ k = 30) : (slBegin R).1 k = R.1 k := by
  unfold slBegin slEmpty
  rw [mI_o h, mI_o h, mI_o h, mI_o h, mI_o h]
theorem FrW_fresh (W : aM) : FrW W (mFresh W) := ⟨rfl, by simp [mFresh, mI, up2], by simp [mFresh, mI, up2], by simp [mFresh, mI, up2]⟩
abbrev z00 : Se := (0, 0, 0, 0, 0, 0, 0, 0)
theorem S_fresh {R : aM} {P : aP} {n dl bal lv t B : Nat} {wl : Nat → List Sg} {al : List (Nat → Int32)} {lg : LgT} {LL : List (Int32 × Int32)} (h : Co R P n dl bal lv t B wl al lg LL) :
    Co (slBegin R) (mFresh P.1, P.2) n dl bal lv t B wl al lg LL ∧ cS (slBegin R) z00 ∧ mS (mFresh P.1) z00 ∧ (slBegin R).1 30 0 = 1 ∧ (mFresh P.1).1 0 21 = 1 :=
  ⟨h.sl (Nat.le_refl _) (fun k hk => slBegin_I hk) (fun _ _ => rfl) (fun _ _ => rfl) (FrW_fresh _), cS_begin R z00, mS_fresh P.1 z00, by simp [slBegin, slEmpty, mI, up2], by simp [mFresh, mI, up2]⟩
theorem mod_s {c e : Nat} (h2 : 2 ≤ e) (h9 : e ≤ 9) : (c + 1) % e = if c % e + 1 = e then 0 else c % e + 1 := by
  rcases (show e = 2 ∨ e = 3 ∨ e = 4 ∨ e = 5 ∨ e = 6 ∨ e = 7 ∨ e = 8 ∨ e = 9 by omega) with rfl | rfl | rfl | rfl | rfl | rfl | rfl | rfl <;> split <;> omega
theorem S_head {R : aM} {P : aP} {n dl bal lv t B b : Nat} {wl : Nat → List Sg} {al : List (Nat → Int32)} {lg : LgT} {LL : List (Int32 × Int32)} (h : Co R P n dl bal lv t B wl al lg LL) (hb : b < 2) (hB : B + 1 < 2 ^ 31) :
    ∃ w, w ≤ 8 ∧ Co (rHead R b) (mBeg P b) n dl bal lv t (B + 1) wl al lg LL ∧ cS (rHead R b) (0, 0, 0, 0, 0, 0, w, 0) ∧ mS (mBeg P b).1 (0, 0, 0, 0, 0, 0, w, 0) ∧ (rHead R b).1 30 0 = 1 ∧ (mBeg P b).1.1 0 21 = 1 ∧ (rHead R b).1 19 = R.1 19 ∧ (rHead R b).2.1 18 = R.2.1 18 ∧ (∀ j, 1200 ≤ j → j < 1550 → (mBeg P b).2 j = P.2 j) ∧ (mBeg P b).1.1 0 32 = P.1.1 0 32 := by
  obtain ⟨f1, f2, f3, f4, f5⟩ := S_fresh h
  have hn8 : n ≤ 8 := h.1.1.2.1
  obtain ⟨x, e, c, a1, a2, a3, a4, a5, a6, a7, a8, a9, a10, a11⟩ := h.2.2.2.2.2.2.1 b hb
  have h32 : (mFresh P.1).1 0 32 = P.1.1 0 32 := (FrW_fresh P.1).2.2.2
  by_cases e0 : e = 0
  · have x0 : x = 0 := a4.mp e0
    have g1 : rHead R b = slBegin R := by
      unfold rHead
      rw [if_pos (by rw [a6, e0]; decide)]
    have g2 : mBeg P b = (mFresh P.1, P.2) := by
      unfold mBeg
      rw [if_pos (by rw [a9, x0]; rfl)]
    rw [g1, g2]
    exact ⟨0, by omega, f1.sl (by omega) (fun _ _ => rfl) (fun _ _ => rfl) (fun _ _ => rfl) (FrW.rf _), f2, f3, f4, f5, slBegin_I (by decide), rfl, fun _ _ _ => rfl, h32⟩
  · have x0 : ¬ x = 0 := fun q => e0 (a4.mpr q)
    have a11' := a11 e0
    have e31 : R.2.1 3 b + 1 = nI (c % e + 1) := by rw [a11', nI_1]
    have hce : c % e < e := Nat.mod_lt _ (by omega)
    have hms := mod_s (c := c) (show 2 ≤ e by omega) a1
    have hrem : P.2 (1558 + 3 * b + 2) + 1 - (P.2 (1558 + 3 * b + 2) + 1) / P.2 (1558 + 3 * b + 1) * P.2 (1558 + 3 * b + 1) = nI ((c + 1) % e) := by
      rw [a10, a7, nI_1]
      exact nI_rem (by omega) (by omega)
    have hcO : ∀ (R1 : aM) (f1' : Nat → Int32), (∀ k, ¬ k = 3 → R1.2.1 k = R.2.1 k) → R1.2.1 3 b = nI ((c + 1) % e) → (∀ i, ¬ i = b → R1.2.1 3 i = R.2.1 3 i) → f1' = up P.2 (1558 + 3 * b + 2) (nI (c + 1)) → cO R1 f1' n (B + 1) := by
      intro R1 f1' k1 k2 k3 k4 b' hb'
      subst k4
      by_cases eb : b' = b
      · subst eb
        refine ⟨x, e, c + 1, a1, a2, by omega, a4, a5, ?_, ?_, ?_, ?_, up_s _ _ _, fun _ => k2⟩
        · rw [k1 2 (by decide)]; exact a6
        · rw [up_o (by omega)]; exact a7
        · rw [k1 1 (by decide)]; exact a8
        · rw [up_o (by omega)]; exact a9
      · obtain ⟨y, e', c', b1, b2, b3, b4, b5, b6, b7, b8, b9, b10, b11⟩ := h.2.2.2.2.2.2.1 b' hb'
        refine ⟨y, e', c', b1, b2, by omega, b4, b5, ?_, ?_, ?_, ?_, ?_, fun q => ?_⟩
        · rw [k1 2 (by decide)]; exact b6
        · rw [up_o (by omega)]; exact b7
        · rw [k1 1 (by decide)]; exact b8
        · rw [up_o (by omega)]; exact b9
        · rw [up_o (by omega)]; exact b10
        · rw [k3 _ eb]; exact b11 q
    have hCo : ∀ (R1 : aM) (P1 : aP), (∀ k, ¬ k = 30 → R1.1 k = R.1 k) → (∀ k, ¬ k = 3 → R1.2.1 k = R.2.1 k) → R1.2.1 3 b = nI ((c + 1) % e) → (∀ i, ¬ i = b → R1.2.1 3 i = R.2.1 3 i) → P1.2 = up P.2 (1558 + 3 * b + 2) (nI (c + 1)) → FrW P.1 P1.1 → Co R1 P1 n dl bal lv t (B + 1) wl al lg LL := by
      intro R1 P1 k0 k1 k2 k3 k4 k5
      obtain ⟨b1, b2, b3, b4, b5, b6, b7, b8, b9, b10⟩ := h
      have k6 : ∀ j, ¬ j = 1558 + 3 * b + 2 → P1.2 j = P.2 j := fun j hj => by rw [k4, up_o hj]
      exact ⟨b1.cg (k0 0 (by decide)) (k6 _ (by omega)) (k6 _ (by omega)) (k6 _ (by omega)), b2.cg k5, b3.cg (by omega) (fun k _ => by rw [k0 19 (by decide)]) (fun j p q => k6 j (by omega)), b4.cg (fun k p q => k1 k (by omega)) (fun j p q => k6 j (by omega)) (fun j p q => k6 j (by omega)), b5.cg (by omega) (fun k p q => k1 k (by omega)) (fun l k p q _ => k6 _ (by omega)), b6.cg (k0 5 (by decide)) (fun k p q => k1 k (by omega)) (fun j p => k6 j (by omega)) (fun l p => k6 _ (by omega)), hcO R1 P1.2 k1 k2 k3 k4, b8.cg (k0 28 (by decide)) (k1 29 (by decide)) (fun i hi => k6 _ (by omega)), b9.cg (k0 26 (by decide)) (k1 27 (by decide)) (fun i hi => k6 _ (by omega)), b10.cg k5⟩
    have hle : ¬ R.2.1 2 b ≤ 0 := by rw [a6]; exact nI_nle (by omega) (by omega)
    have hx0 : ¬ P.2 (1558 + 3 * b) = 0 := by rw [a9]; exact nI_ne0 (by omega) (by omega)
    by_cases hq : c % e + 1 = e
    · rw [if_pos hq] at hms
      have g1 : rHead R b = mI (mA (mA (slBegin R) 3 b (R.2.1 3 b + 1)) 3 b 0) 30 8 (R.2.1 1 b) := by
        unfold rHead
        rw [if_neg hle, if_pos (by rw [e31, a6, hq])]
      have g2 : mBeg P b = (mI (mFresh P.1) 0 28 (P.2 (1558 + 3 * b)), up P.2 (1558 + 3 * b + 2) (P.2 (1558 + 3 * b + 2) + 1)) := by
        unfold mBeg
        rw [if_neg hx0, if_pos (by rw [hrem, hms]; rfl)]
      have hWW := (FrW_fresh P.1).tr (FrW_28 (mFresh P.1) (P.2 (1558 + 3 * b)))
      rw [g1, g2]
      refine ⟨x, by omega, hCo _ _ (fun k hk => ?_) (fun k hk => ?_) ?_ (fun i hi => ?_) ?_ hWW, ⟨?_, ?_, ?_, ?_, fun q => absurd rfl q⟩, ⟨?_, ?_, ?_, ?_, fun q => absurd rfl q⟩, ?_, ?_, ?_, ?_, fun j p q => up_o (by omega), hWW.2.2.2⟩
      · rw [mI_o hk]; exact slBegin_I hk
      · rw [mI_A, mA_o hk, mA_o hk]; rfl
      · rw [mI_A, mA_At, if_pos rfl, hms]; rfl
      · rw [mI_A, mA_At, if_neg hi, mA_At, if_neg hi]; rfl
      · show up _ _ _ = _; rw [a10, nI_1]
      · simp [mA, slBegin, slEmpty, mI, up2]
      · simp [mA, slBegin, slEmpty, mI, up2]; rfl
      · simp [mA, slBegin, slEmpty, mI, up2]; rfl
      · simp [mA, slBegin, slEmpty, mI, up2]; exact a8
      · simp [mFresh, mI, up2]
      · simp [mFresh, mI, up2]; rfl
      · simp [mFresh, mI, up2]; rfl
      · simp [mFresh, mI, up2]; exact a9
      · simp [mA, slBegin, slEmpty, mI, up2]
      · simp [mFresh, mI, up2]
      · rw [mI_o (by decide)]; exact slBegin_I (R := R) (k := 19) (by decide)
      · rw [mI_A, mA_o (by decide), mA_o (by decide)]; rfl
    · rw [if_neg hq] at hms
      have g1 : rHead R b = mA (slBegin R) 3 b (R.2.1 3 b + 1) := by
        unfold rHead
        rw [if_neg hle, if_neg (by rw [e31, a6]; exact fun z => hq ((nI_eq (by omega) (by omega)).mp z))]
      have g2 : mBeg P b = (mFresh P.1, up P.2 (1558 + 3 * b + 2) (P.2 (1558 + 3 * b + 2) + 1)) := by
        unfold mBeg
        rw [if_neg hx0, if_neg (by rw [hrem, hms]; exact nI_ne0 (by omega) (by omega))]
      rw [g1, g2]
      refine ⟨0, by omega, hCo _ _ (fun k hk => slBegin_I hk) (fun k hk => ?_) ?_ (fun i hi => ?_) ?_ (FrW_fresh P.1), f2, f3, f4, f5, (show (slBegin R).1 19 = R.1 19 from slBegin_I (by decide)), ?_, fun j p q => up_o (by omega), h32⟩
      · rw [mA_o hk]; rfl
      · rw [mA_At, if_pos rfl, e31, hms]
      · rw [mA_At, if_neg hi]; rfl
      · show up _ _ _ = _; rw [a10, nI_1]
      · rw [mA_o (by decide)]; rfl
