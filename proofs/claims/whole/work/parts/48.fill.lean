theorem FrW_28 (W : aM) (v : Int32) : FrW W (mI W 0 28 v) := ⟨rfl, by simp [mI, up2], by simp [mI, up2], by simp [mI, up2]⟩
theorem FrW_Ld (W : aM) (f : Nat → Int32) (s k : Nat) : FrW W (mLdW W f s k) := ⟨rfl, by simp [mLdW, mI, up2], by simp [mLdW, mI, up2], by simp [mLdW, mI, up2]⟩
theorem Co.sl {R R' : aM} {P P' : aP} {n dl bal lv t B B' : Nat} {wl : Nat → List Sg} {al : List (Nat → Int32)} {lg : LgT} {LL : List (Int32 × Int32)} (h : Co R P n dl bal lv t B wl al lg LL) (hB : B ≤ B') (h1 : ∀ k, ¬ k = 30 → R'.1 k = R.1 k) (h2 : ∀ k, ¬ k = 18 → R'.2.1 k = R.2.1 k) (h3 : ∀ j, (j < 1200 ∨ 1550 ≤ j) → P'.2 j = P.2 j) (hW : FrW P.1 P'.1) : Co R' P' n dl bal lv t B' wl al lg LL := by
  obtain ⟨a1, a2, a3, a4, a5, a6, a7, a8, a9, a10⟩ := h
  exact ⟨a1.cg (h1 0 (by decide)) (h3 _ (by omega)) (h3 _ (by omega)) (h3 _ (by omega)), a2.cg hW, a3.cg hB (fun k _ => by rw [h1 19 (by decide)]) (fun j p q => h3 j (by omega)), a4.cg (fun k p q => h2 k (by omega)) (fun j p q => h3 j (by omega)) (fun j p q => h3 j (by omega)), a5.cg hB (fun k p q => h2 k (by omega)) (fun l k p q _ => h3 _ (by omega)), a6.cg (h1 5 (by decide)) (fun k p q => h2 k (by omega)) (fun j p => h3 j (by omega)) (fun l p => h3 _ (by omega)), a7.cg hB (fun k p q => h2 k (by omega)) (fun j p q => h3 j (by omega)), a8.cg (h1 28 (by decide)) (h2 29 (by decide)) (fun i hi => h3 _ (by omega)), a9.cg (h1 26 (by decide)) (h2 27 (by decide)) (fun i hi => h3 _ (by omega)), a10.cg hW⟩
/-- what was sent and what was lost is as it was -/
def Still (f f' : Nat → Int32) : Prop := ∀ j, ((1168 ≤ j ∧ j < 1176) ∨ j = 1555) → f' j = f j
theorem Still.tr {f g h : Nat → Int32} (h1 : Still f g) (h2 : Still g h) : Still f h := fun j hj => (h2 j hj).trans (h1 j hj)
/-- same hops, same 'there' -/
def FrS (R R' : aM) (P P' : aP) : Prop := R'.2.1 18 = R.2.1 18 ∧ (∀ j, 1200 ≤ j → j < 1550 → P'.2 j = P.2 j) ∧ R'.1 30 0 = R.1 30 0 ∧ P'.1.1 0 21 = P.1.1 0 21 ∧ P'.1.1 0 32 = P.1.1 0 32
theorem S_fill {R : aM} {P : aP} {n dl bal lv t B s b U : Nat} {wl : Nat → List Sg} {al : List (Nat → Int32)} {lg : LgT} {LL : List (Int32 × Int32)} {e : Se} (h : Co R P n dl bal lv t B wl al lg LL) (hs : s < 8) (hb : b < 2) (hB : B + 4 < 2 ^ 31) (hc : cS R e) (hm : mS P.1 e) (hz : zOk e) (hU : R.1 19 4 = nI U) :
    ∃ wl' e' U', Co (rFl R s b lv) (vO (vF P s b lv) s b lv) n dl bal lv t (B + 4) wl' al lg LL ∧ cS (rFl R s b lv) e' ∧ mS (vO (vF P s b lv) s b lv).1 e' ∧ zOk e' ∧ (rFl R s b lv).1 19 4 = nI U' ∧ U' + ur e = U + ur e' ∧ FrS R (rFl R s b lv) P (vO (vF P s b lv) s b lv) ∧
    ((wl' = wl ∧ Still P.2 (vO (vF P s b lv) s b lv).2 ∧ ∃ w, w ≤ 8 ∧ e' = (zN e, zF e, zT e, zB e, zR e, zA e, w, zL e)) ∨ (zN e = 0 ∧ ∃ l1 x l2, wl s = l1 ++ x :: l2 ∧ wl' = upl wl s (l1 ++ l2) ∧ e' = (x.1, s, x.2.1, x.2.2.2, 0, zA e, 0, nI x.2.2.1))) := by
  have hlv3 : lv ≤ 3 := h.1.1.2.2.2.2.2.1
  have hL := h.2.2.2.2.1
  have hQ := h.2.2.2.2.2.1
  have hbal : P.1.2.1 3 2 = nI bal := h.2.1.2.2.1
  obtain ⟨c1, c2, c3, c4, c5⟩ := hc
  obtain ⟨m1, m2, m3, m4, m5⟩ := hm
  obtain ⟨z1, z2, z3, z4, z5, z6, z7⟩ := hz
  obtain ⟨o1, o2⟩ := wI_s z5 hs
  have hw0 : (nI (zW e) = 0 ↔ zW e = 0) := ⟨fun q => (nI_eq (by omega) (by omega)).mp q, fun q => by rw [q]; rfl⟩
  have hws : (nI (zW e) = nI (s + 1) ↔ zW e = s + 1) := nI_eq (by omega) (by omega)
  by_cases n0 : zN e = 0
  · have hr0 : zR e = 0 := z6 n0
    have hue : ur e = 0 := by unfold ur; rw [if_pos (Or.inl n0)]
    have hn22 : P.1.1 0 22 = 0 := by rw [m1, n0]
    have hn30 : R.1 30 1 = 0 := by rw [c1, n0]
    by_cases w0 : zW e = 0
    · have hown : R.1 30 8 = -1 := by rw [c4]; exact o2.mpr w0
      have hwh : P.1.1 0 28 = 0 := by rw [m4]; exact hw0.mpr w0
      have hns : ¬ (-1 : Int32) = nI s := fun q => nI_nm1 (show s < 2 ^ 31 by omega) q.symm
      have hn0s : ¬ (0 : Int32) = nI (s + 1) := fun q => nI_ne0 (show 0 < s + 1 by omega) (by omega) q.symm
      have hvF : ¬ (¬ P.1.1 0 22 = 0 ∨ ¬ P.1.1 0 28 = 0) := fun q => q.elim (fun q => q hn22) (fun q => q hwh)
      rcases S_sender hL hQ hs hb (by omega) lv hlv3 with ⟨q1, q2⟩ | ⟨v, q1, q2, q3, q4⟩
      · have e1 : rFl R s b lv = lEaseF ((s * 2 + b) * 3) lv R := by
          have e0 : rFill R s b lv = lEaseF ((s * 2 + b) * 3) lv R := by
            unfold rFill
            rw [if_pos hown, if_pos q1]
          unfold rFl
          simp only
          rw [if_pos hn30, e0, lEaseF_I, hown, if_neg hns]
        have e2 : vO (vF P s b lv) s b lv = (P.1, mCounts s b (-1) lv 0 P.2) := by
          have e0 : vF P s b lv = (P.1, mCounts s b (-1) lv 0 P.2) := by
            unfold vF
            rw [if_neg hvF, if_pos q2]
          rw [e0]
          exact if_neg (fun q => hn0s (hwh.symm.trans q))
        obtain ⟨k1, k2⟩ := cL_easeF (n := n) (lv := lv) (wl := wl) hs hb lv 0 B R P.2 (by omega) hL hQ (by omega)
        rw [Nat.add_zero] at k1 k2
        rw [e1, e2]
        refine ⟨wl, e, U, h.frc (P' := (P.1, mCounts s b (-1) lv 0 P.2)) k2 (FrW.rf _) (by omega) (k1.cg (by omega) (fun _ _ _ => rfl) (fun _ _ _ _ _ => rfl)), (show cS R e from ⟨c1, c2, c3, c4, c5⟩).cg (by rw [lEaseF_I]), ⟨m1, m2, m3, m4, m5⟩, ⟨z1, z2, z3, z4, z5, z6, z7⟩, by rw [lEaseF_I]; exact hU, rfl, ⟨k2.2.1 18 (by decide), fun j p q => k2.2.2.1 j (by omega), by rw [lEaseF_I], rfl, rfl⟩, Or.inl ⟨rfl, (fun j hj => k2.2.2.1 j (by omega)), zW e, z5, rfl⟩⟩
      · obtain ⟨l1, x, l2, c, p1, p2, p3, p4, p5, p6, p7, p8, p9, p10, p11, p12, p13, p14, p15, p16, p17, p18, p19, p20, p21, p22, p23⟩ := S_move h hs hb (show v < 3 by omega) q4
        have cl1 : (nI ((s * 2 + b) * 3 + v)).toNatClampNeg = (s * 2 + b) * 3 + v := nI_clamp (by omega)
        have cl2 : (nI c).toNatClampNeg = c := nI_clamp (by omega)
        have cl3 : (nI v).toNatClampNeg = v := nI_clamp (by omega)
        have cl4 : (nI (wl s).length).toNatClampNeg = (wl s).length := nI_clamp (by omega)
        have cl5 : (nI l1.length).toNatClampNeg = l1.length := nI_clamp (by omega)
        have e1 : rFl R s b lv = rBal (tSent (lMove R ((s * 2 + b) * 3 + v) s c) s) s b lv := by
          have : (rBal (tSent (lMove R ((s * 2 + b) * 3 + v) s c) s) s b lv).1 30 8 = -1 := by rw [rBal_I, p21 8 (by omega)]; exact hown
          simp only [rFl, if_pos hn30, rFill, if_pos hown, q2, if_neg (nI_nm1 (show (s * 2 + b) * 3 + v < 2 ^ 31 by omega)), cl1, p3, cl2, this, if_neg hns]
        have e2 : vO (vF P s b lv) s b lv = (mLdW P.1 P.2 s l1.length, mSnF (mLdF P.2 s b v l1.length (wl s).length) s b lv (nI bal)) := by
          have : (mLdW P.1 P.2 s l1.length).1 0 28 = 0 := by simp [mLdW, mI, up2]; exact hwh
          simp only [vF, if_neg hvF, q3, if_neg (nI_nm1 (show v < 2 ^ 31 by omega)), cl3, p5, cl4, p7, cl5, hbal, vO, this, if_neg hn0s]
        have hC1 := p14 (mLdW P.1 P.2 s l1.length) (FrW_Ld _ _ _ _)
        obtain ⟨hC2, hf2⟩ := S_bal hC1 hs hb (by omega)
        rw [e1, e2]
        have hI : (rBal (tSent (lMove R ((s * 2 + b) * 3 + v) s c) s) s b lv).1 = (tSent (lMove R ((s * 2 + b) * 3 + v) s c) s).1 := rBal_I _ _ _ _
        refine ⟨upl wl s (l1 ++ l2), (x.1, s, x.2.1, x.2.2.2, 0, zA e, 0, nI x.2.2.1), U + 1, hC2, ⟨?_, ?_, ?_, ?_, fun _ => ⟨?_, ?_, ?_, ?_⟩⟩, ⟨?_, ?_, ?_, ?_, fun _ => ⟨?_, ?_, ?_⟩⟩, ⟨hs, p12, (show 0 < 2 by decide), z4, (show 0 ≤ 8 by decide), fun _ => rfl, fun _ => p13⟩, ?_, ?_, ⟨?_, fun j p q => ?_, ?_, ?_, (FrW_Ld _ _ _ _).2.2.2⟩, Or.inr ⟨n0, l1, x, l2, p1, rfl, rfl⟩⟩
        · rw [hI]; exact p15
        · rw [hI]; exact p20
        · rw [hI, p21 7 (by omega)]; exact c3
        · rw [hI, p21 8 (by omega)]; exact hown
        · rw [hI]; exact p16
        · rw [hI]; exact p17
        · rw [hI]; exact p19
        · rw [hI]; exact p18
        · simp [mLdW, mI, up2]; exact p9
        · simp [mLdW, mI, up2]; rfl
        · simp [mLdW, mI, up2]; exact m3
        · simp [mLdW, mI, up2]; exact hwh
        · simp [mLdW, mI, up2]
        · simp [mLdW, mI, up2]; exact p10
        · simp [mLdW, mI, up2]; exact p11
        · rw [hI, p22, hU, nI_1]
        · have : ¬ x.1 = 0 := fun q => by rw [q] at p13; exact absurd p13 (by decide)
          rw [hue]
          unfold ur
          rw [if_neg (fun q => q.elim this (fun q => q rfl))]
        · rw [rBal_A (by decide) hlv3]; exact p23
        · show mSnF _ _ _ _ _ j = _
          rw [hf2 j p]
          show mLdF _ _ _ _ _ _ j = _
          rw [mLdF_hi hs hb (by omega) p6 (by omega), if_neg (by omega)]
        · rw [hI]; exact p21 0 (Or.inl rfl)
        · simp [mLdW, mI, up2]
    · have hown : ¬ R.1 30 8 = -1 := fun q => w0 (o2.mp (c4.symm.trans q))
      have hvF : (¬ P.1.1 0 22 = 0 ∨ ¬ P.1.1 0 28 = 0) := Or.inr (fun q => w0 (hw0.mp (m4.symm.trans q)))
      have e0 : vF P s b lv = P := by simp only [vF, if_pos hvF]
      by_cases w1 : zW e = s + 1
      · have hown2 : R.1 30 8 = nI s := by rw [c4]; exact o1.mpr w1
        have hwh : P.1.1 0 28 = nI (s + 1) := by rw [m4]; exact hws.mpr w1
        have hle : P.1.1 0 22 ≤ 0 := by rw [hn22]; decide
        obtain ⟨ws1, -⟩ := hQ.2.1 s hs
        have cl4 : (nI (wl s).length).toNatClampNeg = (wl s).length := nI_clamp (by have := ws1.2.1; omega)
        rcases S_top hQ hs hb lv hlv3 with ⟨q1, q2⟩ | ⟨v, q1, q2, q3, q4⟩
        · have e1 : rFl R s b lv = mI R 30 8 (-1) := by
            simp only [rFl, if_pos hn30, rFill, if_neg hown, if_pos hown2, if_pos q1]
          have e2 : vO (vF P s b lv) s b lv = (mI P.1 0 28 0, P.2) := by
            simp only [e0, vO, if_pos hwh, mOwn, if_pos hle, ws1.1, cl4, if_pos q2]
          rw [e1, e2]
          refine ⟨wl, (zN e, zF e, zT e, zB e, zR e, zA e, 0, zL e), U, h.sl (by omega) (fun k hk => mI_o hk) (fun _ _ => rfl) (fun _ _ => rfl) (FrW_28 _ _), ⟨?_, ?_, ?_, ?_, fun q => absurd n0 q⟩, ⟨?_, ?_, ?_, ?_, fun q => absurd n0 q⟩, ⟨z1, z2, z3, z4, (show 0 ≤ 8 by decide), z6, z7⟩, ?_, rfl, ⟨rfl, fun _ _ _ => rfl, by simp [mI, up2], by simp [mI, up2], (FrW_28 _ _).2.2.2⟩, Or.inl ⟨rfl, (fun _ _ => rfl), 0, by decide, rfl⟩⟩
          · simp [mI, up2]; exact c1
          · simp [mI, up2]; exact c2
          · simp [mI, up2]; exact c3
          · simp [mI, up2]; rfl
          · simp [mI, up2]; exact m1
          · simp [mI, up2]; exact m2
          · simp [mI, up2]; exact m3
          · simp [mI, up2]; rfl
          · rw [mI_o (by decide)]; exact hU
        · obtain ⟨l1, x, l2, c, p1, p2, p3, p4, p5, p6, p7, p8, p9, p10, p11, p12, p13, p14, p15, p16, p17, p18, p19, p20, p21, p22, p23⟩ := S_move h hs hb (show v < 3 by omega) q4
          have cl1 : (nI ((s * 2 + b) * 3 + v)).toNatClampNeg = (s * 2 + b) * 3 + v := nI_clamp (by omega)
          have cl2 : (nI c).toNatClampNeg = c := nI_clamp (by omega)
          have cl3 : (nI v).toNatClampNeg = v := nI_clamp (by omega)
          have cl5 : (nI l1.length).toNatClampNeg = l1.length := nI_clamp (by omega)
          have e1 : rFl R s b lv = mI (tSent (lMove R ((s * 2 + b) * 3 + v) s c) s) 30 8 (-1) := by
            have : (tSent (lMove R ((s * 2 + b) * 3 + v) s c) s).1 30 8 = nI s := by rw [p21 8 (by omega)]; exact hown2
            simp only [rFl, if_pos hn30, rFill, if_neg hown, if_pos hown2, q2, if_neg (nI_nm1 (show (s * 2 + b) * 3 + v < 2 ^ 31 by omega)), cl1, p3, cl2, if_pos this]
          have e2 : vO (vF P s b lv) s b lv = (mLdW (mI P.1 0 28 0) P.2 s l1.length, mLdF P.2 s b v l1.length (wl s).length) := by
            simp only [e0, vO, if_pos hwh, mOwn, if_pos hle, p5, cl4, q3, if_neg (nI_nm1 (show v < 2 ^ 31 by omega)), cl3, p7, cl5]
          have hW := (FrW_28 P.1 0).tr (FrW_Ld (mI P.1 0 28 0) P.2 s l1.length)
          have hC1 := p14 _ hW
          rw [e1, e2]
          refine ⟨upl wl s (l1 ++ l2), (x.1, s, x.2.1, x.2.2.2, 0, zA e, 0, nI x.2.2.1), U + 1, hC1.sl (by omega) (fun k hk => mI_o hk) (fun _ _ => rfl) (fun _ _ => rfl) (FrW.rf _), ⟨?_, ?_, ?_, ?_, fun _ => ⟨?_, ?_, ?_, ?_⟩⟩, ⟨?_, ?_, ?_, ?_, fun _ => ⟨?_, ?_, ?_⟩⟩, ⟨hs, p12, (show 0 < 2 by decide), z4, (show 0 ≤ 8 by decide), fun _ => rfl, fun _ => p13⟩, ?_, ?_, ⟨p23, fun j p q => ?_, ?_, ?_, hW.2.2.2⟩, Or.inr ⟨n0, l1, x, l2, p1, rfl, rfl⟩⟩
          · rw [mI_At, if_neg (by decide)]; exact p15
          · rw [mI_At, if_neg (by decide)]; exact p20
          · rw [mI_At, if_neg (by decide), p21 7 (by omega)]; exact c3
          · rw [mI_At, if_pos rfl]; rfl
          · rw [mI_At, if_neg (by decide)]; exact p16
          · rw [mI_At, if_neg (by decide)]; exact p17
          · rw [mI_At, if_neg (by decide)]; exact p19
          · rw [mI_At, if_neg (by decide)]; exact p18
          · simp [mLdW, mI, up2]; exact p9
          · simp [mLdW, mI, up2]; rfl
          · simp [mLdW, mI, up2]; exact m3
          · simp [mLdW, mI, up2]; rfl
          · simp [mLdW, mI, up2]
          · simp [mLdW, mI, up2]; exact p10
          · simp [mLdW, mI, up2]; exact p11
          · rw [mI_o (by decide), p22, hU, nI_1]
          · have : ¬ x.1 = 0 := fun q => by rw [q] at p13; exact absurd p13 (by decide)
            rw [hue]
            unfold ur
            rw [if_neg (fun q => q.elim this (fun q => q rfl))]
          · show mLdF _ _ _ _ _ _ j = _
            rw [mLdF_hi hs hb (by omega) p6 (by omega), if_neg (by omega)]
          · rw [mI_At, if_neg (by decide)]; exact p21 0 (Or.inl rfl)
          · simp [mLdW, mI, up2]
      · have hown2 : ¬ R.1 30 8 = nI s := fun q => w1 (o1.mp (c4.symm.trans q))
        have hwh : ¬ P.1.1 0 28 = nI (s + 1) := fun q => w1 (hws.mp (m4.symm.trans q))
        have e1 : rFl R s b lv = R := by
          simp only [rFl, if_pos hn30, rFill, if_neg hown, if_neg hown2]
        have e2 : vO (vF P s b lv) s b lv = P := by
          simp only [e0, vO, if_neg hwh]
        rw [e1, e2]
        exact ⟨wl, e, U, h.sl (by omega) (fun _ _ => rfl) (fun _ _ => rfl) (fun _ _ => rfl) (FrW.rf _), ⟨c1, c2, c3, c4, c5⟩, ⟨m1, m2, m3, m4, m5⟩, ⟨z1, z2, z3, z4, z5, z6, z7⟩, hU, rfl, ⟨rfl, fun _ _ _ => rfl, rfl, rfl, rfl⟩, Or.inl ⟨rfl, (fun _ _ => rfl), zW e, z5, rfl⟩⟩
  · have hn30 : ¬ R.1 30 1 = 0 := fun q => n0 (c1.symm.trans q)
    have hvF : (¬ P.1.1 0 22 = 0 ∨ ¬ P.1.1 0 28 = 0) := Or.inl (fun q => n0 (m1.symm.trans q))
    have e0 : vF P s b lv = P := by simp only [vF, if_pos hvF]
    have hle : ¬ P.1.1 0 22 ≤ 0 := by rw [m1]; exact Int32.not_le.mpr (z7 n0)
    by_cases w1 : zW e = s + 1
    · have hown2 : R.1 30 8 = nI s := by rw [c4]; exact o1.mpr w1
      have hwh : P.1.1 0 28 = nI (s + 1) := by rw [m4]; exact hws.mpr w1
      have e1 : rFl R s b lv = mI R 30 8 (-1) := by
        simp only [rFl, if_neg hn30, if_pos hown2]
      have e2 : vO (vF P s b lv) s b lv = (mI P.1 0 28 0, P.2) := by
        simp only [e0, vO, if_pos hwh, mOwn, if_neg hle]
      rw [e1, e2]
      refine ⟨wl, (zN e, zF e, zT e, zB e, zR e, zA e, 0, zL e), U, h.sl (by omega) (fun k hk => mI_o hk) (fun _ _ => rfl) (fun _ _ => rfl) (FrW_28 _ _), ⟨?_, ?_, ?_, ?_, fun q => ?_⟩, ⟨?_, ?_, ?_, ?_, fun q => ?_⟩, ⟨z1, z2, z3, z4, (show 0 ≤ 8 by decide), z6, z7⟩, ?_, rfl, ⟨rfl, fun _ _ _ => rfl, by simp [mI, up2], by simp [mI, up2], (FrW_28 _ _).2.2.2⟩, Or.inl ⟨rfl, (fun _ _ => rfl), 0, by decide, rfl⟩⟩
      · simp [mI, up2]; exact c1
      · simp [mI, up2]; exact c2
      · simp [mI, up2]; exact c3
      · simp [mI, up2]; rfl
      · simp [mI, up2]; exact c5 n0
      · simp [mI, up2]; exact m1
      · simp [mI, up2]; exact m2
      · simp [mI, up2]; exact m3
      · simp [mI, up2]; rfl
      · simp [mI, up2]; exact m5 n0
      · rw [mI_o (by decide)]; exact hU
    · have hown2 : ¬ R.1 30 8 = nI s := fun q => w1 (o1.mp (c4.symm.trans q))
      have hwh : ¬ P.1.1 0 28 = nI (s + 1) := fun q => w1 (hws.mp (m4.symm.trans q))
      have e1 : rFl R s b lv = R := by
        simp only [rFl, if_neg hn30, if_neg hown2]
      have e2 : vO (vF P s b lv) s b lv = P := by
        simp only [e0, vO, if_neg hwh]
      rw [e1, e2]
      exact ⟨wl, e, U, h.sl (by omega) (fun _ _ => rfl) (fun _ _ => rfl) (fun _ _ => rfl) (FrW.rf _), ⟨c1, c2, c3, c4, c5⟩, ⟨m1, m2, m3, m4, m5⟩, ⟨z1, z2, z3, z4, z5, z6, z7⟩, hU, rfl, ⟨rfl, fun _ _ _ => rfl, rfl, rfl, rfl⟩, Or.inl ⟨rfl, (fun _ _ => rfl), zW e, z5, rfl⟩⟩
