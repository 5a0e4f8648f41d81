/-! READ, AND EMPTIED -/
theorem mCame_hi {f : Nat → Int32} {j : Nat} {x1 x2 x3 x4 : Int32} (hf : ∃ k, k ≤ 40 ∧ f 1580 = nI k) (hj : 1741 ≤ j) : mCame f x1 x2 x3 x4 j = f j := by
  obtain ⟨k, hk, hkf⟩ := hf
  unfold mCame mCm
  by_cases c : f 1580 = 40
  · rw [if_pos c]
    rw [up_o (by omega), up_o (by omega), up_o (by omega), up_o (by omega), up_o (by omega), up_o (by omega), shf_o (by omega)]
  · rw [if_neg c, hkf, nI_clamp (by omega)]
    have : ¬ k = 40 := fun q => c (by rw [hkf, q]; rfl)
    rw [up_o (by omega), up_o (by omega), up_o (by omega), up_o (by omega), up_o (by omega)]
def arX (a b c d e : Int32) : Nat → Int32 := fun i => if i = 0 then a else if i = 1 then b else if i = 2 then c else if i = 3 then d else e
/-- the arrivals, one more -/
theorem S_arr {R R' : aM} {f : Nat → Int32} {al : List (Nat → Int32)} {P : Nat} {x0 x1 x2 x3 x4 : Int32} (h : RgA R f al) (hP : tdPl (tdOpen R 28) 28 0 = nI P) (hp : P + 5 ≤ 200) (h1 : R'.1 28 = (tdOpen R 28).1 28) (h2 : R'.2.1 29 = up (up (up (up (up (R.2.1 29) P x0) (P + 1) x1) (P + 2) x2) (P + 3) x3) (P + 4) x4) :
    RgA R' (mCame f x0 x1 x2 x3) (RgA_p al (arX x0 x1 x2 x3 x4)) := by
  have hlen : al.length ≤ 40 := by obtain ⟨st, a1, a2, a3, a4, a5, a6, a7, a8⟩ := h; exact a6
  have h1580 : f 1580 = nI al.length := by obtain ⟨st, a1, a2, a3, a4, a5, a6, a7, a8⟩ := h; exact a7
  have hpl := RgA_pl (x := arX x0 x1 x2 x3 x4) hlen
  have col : ∀ (g : Nat → Int32) (k c : Nat), c < 4 → mCm g k x0 x1 x2 x3 (1580 + 1 + 4 * k + c) = arX x0 x1 x2 x3 x4 c := by
    intro g k c hc
    unfold mCm
    rw [up_o (by omega)]
    rcases (show c = 0 ∨ c = 1 ∨ c = 2 ∨ c = 3 by omega) with rfl | rfl | rfl | rfl
    · rw [up_o (by omega), up_o (by omega), up_o (by omega)]
      exact up_s _ _ _
    · rw [up_o (by omega), up_o (by omega)]
      exact up_s _ _ _
    · rw [up_o (by omega)]
      exact up_s _ _ _
    · exact up_s _ _ _
  refine RgA_push h hP (by omega) h1 (fun c hc => ?_) (fun i hi => ?_) ?_ (fun hl => ⟨fun i hi => ?_, fun c hc => ?_⟩) (fun hl => ⟨fun i hi => ?_, fun c hc => ?_⟩)
  · rw [h2]
    rcases (show c = 0 ∨ c = 1 ∨ c = 2 ∨ c = 3 ∨ c = 4 by omega) with rfl | rfl | rfl | rfl | rfl
    · rw [up_o (by omega), up_o (by omega), up_o (by omega), up_o (by omega)]
      exact up_s _ _ _
    · rw [up_o (by omega), up_o (by omega), up_o (by omega)]
      exact up_s _ _ _
    · rw [up_o (by omega), up_o (by omega)]
      exact up_s _ _ _
    · rw [up_o (by omega)]
      exact up_s _ _ _
    · exact up_s _ _ _
  · rw [h2, up_o (by omega), up_o (by omega), up_o (by omega), up_o (by omega), up_o (by omega)]
  · rw [hpl]
    unfold mCame
    by_cases hl : al.length < 40
    · rw [if_neg (show ¬ f 1580 = 40 from fun q => by rw [h1580] at q; have := (nI_eq (b := 40) (by omega) (by omega)).mp q; omega), h1580, nI_clamp (by omega), if_pos hl]
      exact up_s _ _ _
    · rw [if_pos (show f 1580 = 40 by rw [h1580, show al.length = 40 by omega]; rfl), if_neg hl]
      exact up_s _ _ _
  · unfold mCame
    rw [if_neg (show ¬ f 1580 = 40 from fun q => by rw [h1580] at q; have := (nI_eq (b := 40) (by omega) (by omega)).mp q; omega), h1580, nI_clamp (by omega)]
    unfold mCm
    rw [up_o (by omega), up_o (by omega), up_o (by omega), up_o (by omega), up_o (by omega)]
  · unfold mCame
    rw [if_neg (show ¬ f 1580 = 40 from fun q => by rw [h1580] at q; have := (nI_eq (b := 40) (by omega) (by omega)).mp q; omega), h1580, nI_clamp (by omega)]
    exact col _ _ _ hc
  · unfold mCame
    rw [if_pos (show f 1580 = 40 by rw [h1580, hl]; rfl)]
    unfold mCm
    rw [up_o (by omega), up_o (by omega), up_o (by omega), up_o (by omega), up_o (by omega), up_o (by omega)]
    unfold shf
    rw [if_pos (by omega)]
  · unfold mCame
    rw [if_pos (show f 1580 = 40 by rw [h1580, hl]; rfl)]
    exact col _ 39 _ hc
theorem tDeliv_I {R : aM} {f t k : Nat} {w : Int32} (h : ¬ k = 19) : (tDeliv R f t w).1 k = R.1 k := by
  unfold tDeliv
  simp only [mA_I0]
  rw [mI_o h, mI_o h, mI_o h]
theorem tDeliv_A {R : aM} {f t k : Nat} {w : Int32} (h1 : ¬ k = 20) (h2 : ¬ k = 23) (h3 : ¬ k = 24) (h4 : ¬ k = 25) : (tDeliv R f t w).2.1 k = R.2.1 k := by
  unfold tDeliv
  rw [mA_o h4, mA_o h3, mA_o h2, mA_o h1]
  rfl
theorem tDeliv_19 {R : aM} {f t : Nat} {w : Int32} : (tDeliv R f t w).1 19 0 = R.1 19 0 ∧ (tDeliv R f t w).1 19 1 = R.1 19 1 + 1 ∧ (tDeliv R f t w).1 19 2 = R.1 19 2 ∧ (tDeliv R f t w).1 19 3 = R.1 19 3 ∧ (tDeliv R f t w).1 19 4 = R.1 19 4 - 1 ∧ (tDeliv R f t w).1 19 5 = R.1 19 5 + w := by
  refine ⟨?_, ?_, ?_, ?_, ?_, ?_⟩ <;> simp [tDeliv, mA, mI, up2]
theorem tDeliv_Q {R : aM} {f t : Nat} {w : Int32} : (tDeliv R f t w).2.1 20 = up (R.2.1 20) t (R.2.1 20 t + 1) ∧ (tDeliv R f t w).2.1 23 = up (R.2.1 23) f (if R.2.1 23 f < w then w else R.2.1 23 f) ∧ (tDeliv R f t w).2.1 24 = up (R.2.1 24) f (R.2.1 24 f + w) ∧ (tDeliv R f t w).2.1 25 = up (R.2.1 25) f (R.2.1 25 f + 1) := by
  refine ⟨?_, ?_, ?_, ?_⟩ <;> funext j <;> simp [tDeliv, mA, mI, up2, up]
theorem rDeliver_I {R : aM} {s f P k : Nat} (h1 : ¬ k = 19) (h2 : ¬ k = 28) (h3 : ¬ k = 30) : (rDeliver R s f P).1 k = R.1 k := by
  unfold rDeliver
  simp only [mA_I0]
  rw [tdOpen_I h2, tDeliv_I h1, mI_o h3]
theorem rDeliver_19 {R : aM} {s f P : Nat} : (rDeliver R s f P).1 19 = (tDeliv (mI R 30 6 1) f s (R.1 0 6 - R.1 30 5)).1 19 := by
  unfold rDeliver
  simp only [mA_I0]
  rw [tdOpen_I (by decide)]
theorem rDeliver_28 {R : aM} {s f P : Nat} : (rDeliver R s f P).1 28 = (tdOpen R 28).1 28 := by
  unfold rDeliver
  simp only [mA_I0]
  have e : (tDeliv (mI R 30 6 1) f s (R.1 0 6 - R.1 30 5)).1 28 = R.1 28 := by rw [tDeliv_I (by decide), mI_o (by decide)]
  unfold tdOpen
  rw [e]
  split <;> (funext j; simp only [mI_I, e])
theorem rDeliver_30 {R : aM} {s f P j : Nat} : (rDeliver R s f P).1 30 j = if j = 6 then 1 else R.1 30 j := by
  unfold rDeliver
  simp only [mA_I0]
  rw [tdOpen_I (by decide), tDeliv_I (by decide), mI_At]
theorem rDeliver_29 {R : aM} {s f P : Nat} : (rDeliver R s f P).2.1 29 = up (up (up (up (up (R.2.1 29) P (R.1 30 1)) (P + 1) (nI f)) (P + 2) (nI s)) (P + 3) (R.1 0 6 - R.1 30 5)) (P + 4) (R.1 30 4) := by
  unfold rDeliver
  simp only [mA_up, tdOpen_A]
  rw [tDeliv_A (by decide) (by decide) (by decide) (by decide)]
  rfl
theorem rDeliver_Ao {R : aM} {s f P k : Nat} (h : ¬ k = 29) : (rDeliver R s f P).2.1 k = (tDeliv (mI R 30 6 1) f s (R.1 0 6 - R.1 30 5)).2.1 k := by
  unfold rDeliver
  simp only
  rw [mA_o h, mA_o h, mA_o h, mA_o h, mA_o h, tdOpen_A]
theorem mArF_o {f : Nat → Int32} {s fr j : Nat} {wt : Int32} (h1 : ¬ j = 1554) (h2 : ¬ j = 1160 + s) (h3 : ¬ j = 1556) (h4 : ¬ j = 1564 + fr) (h5 : ¬ j = 1572 + fr) (h6 : ¬ j = 1176 + fr) : mArF f s fr wt j = f j := by
  unfold mArF
  split
  · rw [up_o h5, up_o h4, up_o h3, up_o h2, up_o h1]
  · rw [up_o h6, up_o h5, up_o h4, up_o h3, up_o h2, up_o h1]
theorem mArF_v {f : Nat → Int32} {s fr : Nat} {wt : Int32} (hs : s < 8) (hfr : fr < 8) : mArF f s fr wt 1554 = f 1554 + 1 ∧ mArF f s fr wt (1160 + s) = f (1160 + s) + 1 ∧ mArF f s fr wt 1556 = f 1556 + wt ∧ mArF f s fr wt (1564 + fr) = f (1564 + fr) + wt ∧ mArF f s fr wt (1572 + fr) = f (1572 + fr) + 1 ∧ mArF f s fr wt (1176 + fr) = if f (1176 + fr) < wt then wt else f (1176 + fr) := by
  by_cases c : wt ≤ f (1176 + fr)
  · simp (disch := omega) only [mArF, if_pos c, up_o, up_s]
    rw [if_neg (Int32.not_lt.mpr c)]
    simp
  · simp (disch := omega) only [mArF, if_neg c, up_o, up_s]
    rw [if_pos (Int32.not_le.mp c)]
    simp
theorem S_deliver {R : aM} {P : aP} {n dl bal lv t B s : Nat} {wl : Nat → List Sg} {al : List (Nat → Int32)} {lg : LgT} {LL : List (Int32 × Int32)} {e : Se} (h : Co R P n dl bal lv t B wl al lg LL) (hs : s < 8) (hc : cS R e) (hm : mS P.1 e) (hz : zOk e) (hn : ¬ zN e = 0) (hLL : LL.length < 3300) :
    ∃ x, x 0 = zN e ∧ x 1 = nI (zF e) ∧ x 2 = nI s ∧ x 4 = zL e ∧ Co (rDeliver R s (R.1 30 2).toNatClampNeg (tdPl (tdOpen R 28) 28 0).toNatClampNeg) (mArr P s) n dl bal lv t B wl (RgA_p al x) lg (LL ++ [(x 0, P.1.1 0 32)]) := by
  obtain ⟨a1, a2, a3, a4, a5, a6, a7, a8, a9, a10⟩ := h
  obtain ⟨c1, c2, c3, c4, c5⟩ := hc
  obtain ⟨m1, m2, m3, m4, m5⟩ := hm
  obtain ⟨z1, z2, z3, z4, z5, z6, z7⟩ := hz
  obtain ⟨c51, c52, c53, c54⟩ := c5 hn
  obtain ⟨m51, m52, m53⟩ := m5 hn
  have hfc : (R.1 30 2).toNatClampNeg = zF e := by rw [c51]; exact nI_clamp (by omega)
  have hff : (P.1.1 0 23).toNatClampNeg = zF e := by rw [m51]; exact nI_clamp (by omega)
  have hg : (P.1.1 0 31).toNatClampNeg = LL.length := by rw [a10.1]; exact nI_clamp (by omega)
  have hwt : P.2 1552 - P.1.1 0 25 = R.1 0 6 - R.1 30 5 := by rw [m53, c53, a1.2.2.2.2.2.1, a1.1.2.2.2.2.2.2.1]
  obtain ⟨st, st', k0, k1, k2, k3, k4, k5, k6, k7, k8⟩ := RgA_place a8 (arX (zN e) (nI (zF e)) (nI s) (R.1 0 6 - R.1 30 5) (zL e))
  have hPc : (tdPl (tdOpen R 28) 28 0).toNatClampNeg = (st' + ((RgA_p al (arX (zN e) (nI (zF e)) (nI s) (R.1 0 6 - R.1 30 5) (zL e))).length - 1)) % 40 * 5 := by rw [k8]; exact nI_clamp (by omega)
  have hP5 : (st' + ((RgA_p al (arX (zN e) (nI (zF e)) (nI s) (R.1 0 6 - R.1 30 5) (zL e))).length - 1)) % 40 * 5 + 5 ≤ 200 := by omega
  refine ⟨arX (zN e) (nI (zF e)) (nI s) (R.1 0 6 - R.1 30 5) (zL e), rfl, rfl, rfl, rfl, ?_⟩
  unfold mArr
  simp only
  rw [hfc, hff, hg, hwt, hPc, m1, m51]
  generalize hPg : (st' + ((RgA_p al (arX (zN e) (nI (zF e)) (nI s) (R.1 0 6 - R.1 30 5) (zL e))).length - 1)) % 40 * 5 = Pp at k8 hP5
  generalize hwg : R.1 0 6 - R.1 30 5 = wt at *
  have h1580 : ∃ k, k ≤ 40 ∧ mArF P.2 s (zF e) wt 1580 = nI k := by
    obtain ⟨st0, b1, b2, b3, b4, b5, b6, b7, b8⟩ := a8
    exact ⟨al.length, b6, by rw [mArF_o (by omega) (by omega) (by omega) (by omega) (by omega) (by omega)]; exact b7⟩
  have hlo : ∀ j, j < 1580 → ¬ j = 1554 → ¬ j = 1160 + s → ¬ j = 1556 → ¬ j = 1564 + zF e → ¬ j = 1572 + zF e → ¬ j = 1176 + zF e → mCame (mArF P.2 s (zF e) wt) (zN e) (nI (zF e)) (nI s) wt j = P.2 j := fun j p p1 p2 p3 p4 p5 p6 => by
    rw [mCame_o p, mArF_o p1 p2 p3 p4 p5 p6]
  obtain ⟨v1, v2, v3, v4, v5, v6⟩ := mArF_v (f := P.2) (wt := wt) hs z1
  obtain ⟨d0, d1, d2, d3, d4, d5⟩ := tDeliv_19 (R := mI R 30 6 1) (f := zF e) (t := s) (w := wt)
  obtain ⟨r1, r2, r3, r4⟩ := tDeliv_Q (R := mI R 30 6 1) (f := zF e) (t := s) (w := wt)
  have h19 : ∀ k, (mI R 30 6 1).1 19 k = R.1 19 k := fun k => by rw [mI_o (by decide)]
  have hA : ∀ k, ¬ k = 20 → ¬ k = 23 → ¬ k = 24 → ¬ k = 25 → ¬ k = 29 → (rDeliver R s (zF e) Pp).2.1 k = R.2.1 k := fun k p1 p2 p3 p4 p5 => by
    rw [rDeliver_Ao p5, tDeliv_A p1 p2 p3 p4]; rfl
  have hI19 := rDeliver_19 (R := R) (s := s) (f := zF e) (P := Pp)
  rw [hwg] at hI19
  have hAo := fun (k : Nat) (p : ¬ k = 29) => rDeliver_Ao (R := R) (s := s) (f := zF e) (P := Pp) p
  rw [hwg] at hAo
  obtain ⟨⟨m, a31, a32, a33⟩, a34, a35, a36, a37⟩ := a3
  refine ⟨a1.cg (rDeliver_I (by decide) (by decide) (by decide)) (hlo _ (by omega) (by omega) (by omega) (by omega) (by omega) (by omega) (by omega)) (hlo _ (by omega) (by omega) (by omega) (by omega) (by omega) (by omega) (by omega)) (hlo _ (by omega) (by omega) (by omega) (by omega) (by omega) (by omega) (by omega)), ?_, ⟨⟨m, a31, ?_, ?_⟩, ?_, ?_, ?_, ?_⟩, ⟨fun s' hs' => ?_, fun k hk => ?_⟩, a5.cg (Nat.le_refl _) (fun k p q => hA k (by omega) (by omega) (by omega) (by omega) (by omega)) (fun l k p q _ => hlo _ (by omega) (by omega) (by omega) (by omega) (by omega) (by omega) (by omega)), a6.cg (rDeliver_I (by decide) (by decide) (by decide)) (fun k p q => hA k (by omega) (by omega) (by omega) (by omega) (by omega)) (fun j p => hlo _ (by omega) (by omega) (by omega) (by omega) (by omega) (by omega) (by omega)) (fun l p => hlo _ (by omega) (by omega) (by omega) (by omega) (by omega) (by omega) (by omega)), a7.cg (Nat.le_refl _) (fun k p q => hA k (by omega) (by omega) (by omega) (by omega) (by omega)) (fun j p q => hlo _ (by omega) (by omega) (by omega) (by omega) (by omega) (by omega) (by omega)), ?_, a9.cg (rDeliver_I (by decide) (by decide) (by decide)) (hA 27 (by decide) (by decide) (by decide) (by decide) (by decide)) (fun i hi => ?_), ?_⟩
  · obtain ⟨b1, b2, b3, b4⟩ := a2
    have e3 : (mI (mA (mA (mI P.1 0 26 1) 12 LL.length (zN e)) 13 LL.length (P.1.1 0 32)) 0 31 (P.1.1 0 31 + 1)).2.1 3 = P.1.2.1 3 := by
      rw [mI_A, mA_o (by decide), mA_o (by decide)]; rfl
    refine ⟨?_, by rw [e3]; exact b2, by rw [e3]; exact b3, by rw [e3]; exact b4⟩
    simp [mA, mI, up2]
    exact b1
  · rw [hI19, d0, h19]; exact a32
  · show mCame _ _ _ _ _ _ = _
    rw [hlo _ (by omega) (by omega) (by omega) (by omega) (by omega) (by omega) (by omega)]; exact a33
  · show _ = mCame _ _ _ _ _ _
    rw [hI19, d1, h19, mCame_o (by omega), v1, a34]
  · show _ = mCame _ _ _ _ _ _
    rw [hI19, d2, h19, hlo _ (by omega) (by omega) (by omega) (by omega) (by omega) (by omega) (by omega)]; exact a35
  · show _ = mCame _ _ _ _ _ _
    rw [hI19, d3, h19, hlo _ (by omega) (by omega) (by omega) (by omega) (by omega) (by omega) (by omega)]; exact a36
  · show _ = mCame _ _ _ _ _ _
    rw [hI19, d5, h19, mCame_o (by omega), v3, a37]
  · obtain ⟨b1, b2, b3, b4, b5⟩ := a4.1 s' hs'
    obtain ⟨g1, g2, g3, g4, g5⟩ := a4.1 s hs
    obtain ⟨i1, i2, i3, i4, i5⟩ := a4.1 (zF e) z1
    rw [hAo 20 (by decide), hA 21 (by decide) (by decide) (by decide) (by decide) (by decide), hAo 23 (by decide), hAo 24 (by decide), hAo 25 (by decide), r1, r2, r3, r4]
    show _ = mCame _ _ _ _ _ _ ∧ _ = mCame _ _ _ _ _ _ ∧ _ = mCame _ _ _ _ _ _ ∧ _ = mCame _ _ _ _ _ _ ∧ _ = mCame _ _ _ _ _ _
    rw [mCame_o (by omega), mCame_o (by omega), mCame_o (by omega), mCame_o (by omega), mCame_o (by omega)]
    refine ⟨?_, ?_, ?_, ?_, ?_⟩
    · by_cases q : s' = s
      · rw [q, up_s, v2]; show R.2.1 20 s + 1 = _; rw [g1]
      · rw [up_o q, mArF_o (by omega) (by omega) (by omega) (by omega) (by omega) (by omega)]; exact b1
    · rw [mArF_o (by omega) (by omega) (by omega) (by omega) (by omega) (by omega)]; exact b2
    · by_cases q : s' = zF e
      · rw [q, up_s, v6]; show (if R.2.1 23 (zF e) < wt then wt else R.2.1 23 (zF e)) = _; rw [i3]
      · rw [up_o q, mArF_o (by omega) (by omega) (by omega) (by omega) (by omega) (by omega)]; exact b3
    · by_cases q : s' = zF e
      · rw [q, up_s, v4]; show R.2.1 24 (zF e) + wt = _; rw [i4]
      · rw [up_o q, mArF_o (by omega) (by omega) (by omega) (by omega) (by omega) (by omega)]; exact b4
    · by_cases q : s' = zF e
      · rw [q, up_s, v5]; show R.2.1 25 (zF e) + 1 = _; rw [i5]
      · rw [up_o q, mArF_o (by omega) (by omega) (by omega) (by omega) (by omega) (by omega)]; exact b5
  · rw [hA 22 (by decide) (by decide) (by decide) (by decide) (by decide)]
    show _ = mCame _ _ _ _ _ _
    rw [hlo _ (by omega) (by omega) (by omega) (by omega) (by omega) (by omega) (by omega)]
    exact a4.2 k hk
  · have h28 : (mI R 30 6 1).1 28 = R.1 28 := mI_o (by decide)
    have hb : RgA R (mArF P.2 s (zF e) wt) al := a8.cg rfl rfl (fun i hi => mArF_o (by omega) (by omega) (by omega) (by omega) (by omega) (by omega))
    refine S_arr hb k8 hP5 rDeliver_28 ?_
    have := rDeliver_29 (R := R) (s := s) (f := zF e) (P := Pp)
    rw [hwg, c1, c54] at this
    exact this
  · show mCame _ _ _ _ _ _ = _
    rw [mCame_hi h1580 (by omega), mArF_o (by omega) (by omega) (by omega) (by omega) (by omega) (by omega)]
  · obtain ⟨b1, b2⟩ := a10
    refine ⟨?_, fun j y hj => ?_⟩
    · rw [mI_At, if_pos rfl, b1, nI_1, List.length_append]; rfl
    · have e12 : (mI (mA (mA (mI P.1 0 26 1) 12 LL.length (zN e)) 13 LL.length (P.1.1 0 32)) 0 31 (P.1.1 0 31 + 1)).2.1 12 j = if j = LL.length then zN e else P.1.2.1 12 j := by
        rw [mI_A, mA_o (by decide), mA_At]; rfl
      have e13 : (mI (mA (mA (mI P.1 0 26 1) 12 LL.length (zN e)) 13 LL.length (P.1.1 0 32)) 0 31 (P.1.1 0 31 + 1)).2.1 13 j = if j = LL.length then P.1.1 0 32 else P.1.2.1 13 j := by
        rw [mI_A, mA_At, mA_o (by decide)]; rfl
      show (mI _ _ _ _).2.1 12 j = _ ∧ (mI _ _ _ _).2.1 13 j = _
      rw [e12, e13]
      by_cases hjl : j < LL.length
      · rw [if_neg (by omega), if_neg (by omega)]
        rw [List.getElem?_append_left hjl] at hj
        exact b2 j y hj
      · rw [List.getElem?_append_right (by omega)] at hj
        have hz : j - LL.length < 1 := (List.getElem?_eq_some_iff.mp hj).1
        have hj0 : j = LL.length := by omega
        subst hj0
        rw [Nat.sub_self] at hj
        cases hj
        rw [if_pos rfl, if_pos rfl]
        exact ⟨rfl, rfl⟩
