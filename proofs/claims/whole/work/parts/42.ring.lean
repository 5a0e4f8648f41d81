/-! RINGS -/
/-- the arrivals: the class's ring and the reference's row -/
def RgA (R : aM) (f : Nat → Int32) (al : List (Nat → Int32)) : Prop := ∃ st, st < 40 ∧ R.1 28 1 = nI 40 ∧ R.1 28 2 = nI 5 ∧ R.1 28 3 = nI al.length ∧ R.1 28 4 = nI st ∧ al.length ≤ 40 ∧ f 1580 = nI al.length ∧ ∀ j x, al[j]? = some x → (∀ c, c < 5 → R.2.1 29 (((st + j) % 40) * 5 + c) = x c) ∧ (∀ c, c < 4 → f (1580 + 1 + 4 * j + c) = x c)
theorem RgA.cg {R R' : aM} {f f' : Nat → Int32} {al : List (Nat → Int32)} (h : RgA R f al) (h1 : R'.1 28 = R.1 28) (h2 : R'.2.1 29 = R.2.1 29) (h3 : ∀ i, i < 1 + 4 * 40 → f' (1580 + i) = f (1580 + i)) : RgA R' f' al := by
  obtain ⟨st, a1, a2, a3, a4, a5, a6, a7, a8⟩ := h
  have h30 := h3 0 (by omega)
  rw [Nat.add_zero] at h30
  refine ⟨st, a1, by rw [h1]; exact a2, by rw [h1]; exact a3, by rw [h1]; exact a4, by rw [h1]; exact a5, a6, by rw [h30]; exact a7, fun j x hj => ?_⟩
  have hjl := (List.getElem?_eq_some_iff.mp hj).1
  obtain ⟨b1, b2⟩ := a8 j x hj
  refine ⟨fun c hc => by rw [h2]; exact b1 c hc, fun c hc => ?_⟩
  have := h3 (1 + 4 * j + c) (by omega)
  rw [show 1580 + 1 + 4 * j + c = 1580 + (1 + 4 * j + c) by omega, this, ← b2 c hc]
  congr 1
  omega
def RgA_p (al : List (Nat → Int32)) (x : Nat → Int32) : List (Nat → Int32) := if al.length < 40 then al ++ [x] else al.tail ++ [x]
theorem RgA_pl {al : List (Nat → Int32)} {x : Nat → Int32} (h : al.length ≤ 40) : (RgA_p al x).length = (if al.length < 40 then al.length + 1 else 40) := by
  unfold RgA_p
  split
  · simp
  · simp; omega
theorem RgA_place {R : aM} {f : Nat → Int32} {al : List (Nat → Int32)} (h : RgA R f al) (x : Nat → Int32) : ∃ st st', R.1 28 4 = nI st ∧ st < 40 ∧ st' < 40 ∧ (tdOpen R 28).1 28 1 = nI 40 ∧ (tdOpen R 28).1 28 2 = nI 5 ∧ (tdOpen R 28).1 28 3 = nI (RgA_p al x).length ∧ (tdOpen R 28).1 28 4 = nI st' ∧ st' = (if al.length < 40 then st else (st + 1) % 40) ∧ tdPl (tdOpen R 28) 28 0 = nI (((st' + ((RgA_p al x).length - 1)) % 40) * 5) := by
  obtain ⟨st, a1, a2, a3, a4, a5, a6, a7, a8⟩ := h
  have hl := RgA_pl (x := x) a6
  by_cases hc : al.length < 40
  · rw [if_pos hc] at hl
    have e1 : ¬ R.1 28 1 ≤ R.1 28 3 := by rw [a2, a4]; exact nI_ge hc (by omega)
    have eT : tdOpen R 28 = mI R 28 3 (R.1 28 3 + 1) := if_neg e1
    rw [eT]
    refine ⟨st, st, a5, a1, a1, ?_, ?_, ?_, ?_, by rw [if_pos hc], ?_⟩
    · simp only [mI_I]; exact a2
    · simp only [mI_I]; exact a3
    · simp only [mI_I, a4, nI_1, hl, and_self, if_true]
    · simp only [mI_I]; exact a5
    · simp only [tdPl, mI_I, and_self, if_true, a2, a3, a4, a5, hl, Nat.reduceEqDiff, and_false, if_false, nI_1, nI_add]
      have e2 : nI (st + (al.length + 1)) - 1 - 0 = nI (st + al.length) := by
        rw [show st + (al.length + 1) = st + al.length + 1 by omega, nI_pred, Int32.sub_zero]
      rw [e2]
      by_cases hw : 40 ≤ st + al.length
      · rw [if_pos (nI_le hw (by omega)), nI_sub hw, nI_mul]
        congr 1
        omega
      · rw [if_neg (nI_ge (by omega) (by omega)), nI_mul]
        congr 1
        omega
  · rw [if_neg hc] at hl
    have e0 : al.length = 40 := by omega
    have e1 : R.1 28 1 ≤ R.1 28 3 := by rw [a2, a4, e0]; exact Int32.le_refl _
    have e3 : (if R.1 28 1 ≤ R.1 28 4 + 1 then (0 : Int32) else R.1 28 4 + 1) = nI ((st + 1) % 40) := by
      rw [a2, a5, nI_1]
      by_cases hw : 40 ≤ st + 1
      · rw [if_pos (nI_le hw (by omega)), show st + 1 = 40 by omega]; rfl
      · rw [if_neg (nI_ge (by omega) (by omega))]
        congr 1
        omega
    have hst : (st + 1) % 40 < 40 := Nat.mod_lt _ (by decide)
    have eT : tdOpen R 28 = mI R 28 4 (nI ((st + 1) % 40)) := by
      unfold tdOpen
      rw [if_pos e1, e3]
    rw [eT]
    refine ⟨st, (st + 1) % 40, a5, a1, hst, ?_, ?_, ?_, ?_, by rw [if_neg hc], ?_⟩
    · simp only [mI_I]; exact a2
    · simp only [mI_I]; exact a3
    · simp only [mI_I, Nat.reduceEqDiff, and_false, if_false, hl, a4, e0]
    · simp only [mI_I, and_self, if_true]
    · simp only [tdPl, mI_I, and_self, if_true, Nat.reduceEqDiff, and_false, if_false]
      generalize (st + 1) % 40 = st' at hst ⊢
      simp only [a2, a3, a4, e0, hl, nI_add]
      have e2 : nI (st' + 40) - 1 - 0 = nI (st' + (40 - 1)) := by
        rw [show st' + 40 = st' + (40 - 1) + 1 by omega, nI_pred, Int32.sub_zero]
      rw [e2]
      by_cases hw : 40 ≤ st' + (40 - 1)
      · rw [if_pos (nI_le hw (by omega)), nI_sub hw, nI_mul]
        congr 1
        omega
      · rw [if_neg (nI_ge (by omega) (by omega)), nI_mul]
        congr 1
        omega
theorem RgA_push {R R' : aM} {f f' : Nat → Int32} {al : List (Nat → Int32)} {x : Nat → Int32} {P : Nat} (h : RgA R f al) (hP : tdPl (tdOpen R 28) 28 0 = nI P) (hp : P + 5 ≤ 5 * 40) (h1 : R'.1 28 = (tdOpen R 28).1 28) (h2 : ∀ c, c < 5 → R'.2.1 29 (P + c) = x c) (h3 : ∀ i, (i < P ∨ P + 5 ≤ i) → R'.2.1 29 i = R.2.1 29 i)
    (g1 : f' 1580 = nI (RgA_p al x).length) (g2 : al.length < 40 → (∀ i, i < 4 * al.length → f' (1580 + 1 + i) = f (1580 + 1 + i)) ∧ ∀ c, c < 4 → f' (1580 + 1 + 4 * al.length + c) = x c) (g3 : al.length = 40 → (∀ i, i < 4 * (40 - 1) → f' (1580 + 1 + i) = f (1580 + 1 + i + 4)) ∧ ∀ c, c < 4 → f' (1580 + 1 + 4 * (40 - 1) + c) = x c) : RgA R' f' (RgA_p al x) := by
  obtain ⟨st0, st', k0, k1, k2, k3, k4, k5, k6, k7, k8⟩ := RgA_place h x
  obtain ⟨st, a1, a2, a3, a4, a5, a6, a7, a8⟩ := h
  have hst : st0 = st := (nI_eq (by omega) (by omega)).mp (k0.symm.trans a5)
  subst hst
  have hl := RgA_pl (x := x) a6
  have hPe : P = ((st' + ((RgA_p al x).length - 1)) % 40) * 5 := (nI_eq (by omega) (by omega)).mp (hP.symm.trans k8)
  refine ⟨st', k2, by rw [h1]; exact k3, by rw [h1]; exact k4, by rw [h1]; exact k5, by rw [h1]; exact k6, by rw [hl]; split <;> omega, g1, fun j y hj => ?_⟩
  by_cases hc : al.length < 40
  · rw [if_pos hc] at hl k7
    subst k7
    rw [hl] at hPe
    have hj' : (al ++ [x])[j]? = some y := by
      unfold RgA_p at hj
      rw [if_pos hc] at hj
      exact hj
    obtain ⟨q1, q2⟩ := g2 hc
    by_cases hjl : j < al.length
    · rw [List.getElem?_append_left hjl] at hj'
      obtain ⟨b1, b2⟩ := a8 j y hj'
      refine ⟨fun c hcc => ?_, fun c hcc => ?_⟩
      · rw [h3 _ (by omega)]; exact b1 c hcc
      · rw [← b2 c hcc, show 1580 + 1 + 4 * j + c = 1580 + 1 + (4 * j + c) by omega]
        exact q1 _ (by omega)
    · rw [List.getElem?_append_right (by omega)] at hj'
      have hz : j - al.length < 1 := (List.getElem?_eq_some_iff.mp hj').1
      have hj0 : j = al.length := by omega
      subst hj0
      rw [Nat.sub_self] at hj'
      cases hj'
      refine ⟨fun c hcc => ?_, fun c hcc => q2 c hcc⟩
      rw [show (st' + al.length) % 40 * 5 + c = P + c by omega]
      exact h2 c hcc
  · rw [if_neg hc] at hl k7
    have e0 : al.length = 40 := by omega
    rw [hl] at hPe
    have hj' : (al.tail ++ [x])[j]? = some y := by
      unfold RgA_p at hj
      rw [if_neg hc] at hj
      exact hj
    have htl : al.tail.length = 40 - 1 := by simp [e0]
    obtain ⟨q1, q2⟩ := g3 e0
    by_cases hjl : j < 40 - 1
    · rw [List.getElem?_append_left (by omega), List.getElem?_tail] at hj'
      obtain ⟨b1, b2⟩ := a8 (j + 1) y hj'
      refine ⟨fun c hcc => ?_, fun c hcc => ?_⟩
      · rw [h3 _ (by omega), show (st' + j) % 40 = (st0 + (j + 1)) % 40 by omega]
        exact b1 c hcc
      · rw [← b2 c hcc, show 1580 + 1 + 4 * j + c = 1580 + 1 + (4 * j + c) by omega, q1 _ (by omega)]
        congr 1
        omega
    · rw [List.getElem?_append_right (by omega)] at hj'
      have hz : j - al.tail.length < 1 := (List.getElem?_eq_some_iff.mp hj').1
      have hj0 : j = 40 - 1 := by omega
      subst hj0
      rw [htl, Nat.sub_self] at hj'
      cases hj'
      refine ⟨fun c hcc => ?_, fun c hcc => q2 c hcc⟩
      rw [show (st' + (40 - 1)) % 40 * 5 + c = P + c by omega]
      exact h2 c hcc
theorem RgA_told {R : aM} {f : Nat → Int32} {al : List (Nat → Int32)} {i : Nat} (h : RgA R f al) (hi : i < al.length) : ∃ x P, al[al.length - 1 - i]? = some x ∧ tdPl R 28 (nI i) = nI P ∧ P + 5 ≤ 5 * 40 ∧ (∀ c, c < 5 → R.2.1 29 (P + c) = x c) ∧ (∀ c, c < 4 → f (1580 + 1 + 4 * (al.length - 1 - i) + c) = x c) := by
  obtain ⟨st, a1, a2, a3, a4, a5, a6, a7, a8⟩ := h
  have hx : al[al.length - 1 - i]? = some (al[al.length - 1 - i]'(by omega)) := List.getElem?_eq_getElem (by omega)
  obtain ⟨b1, b2⟩ := a8 _ _ hx
  refine ⟨_, ((st + (al.length - 1 - i)) % 40) * 5, hx, ?_, by omega, b1, b2⟩
  simp only [tdPl, a2, a3, a4, a5, nI_add]
  have e2 : nI (st + al.length) - 1 - nI i = nI (st + (al.length - 1 - i)) := by
    rw [show st + al.length = st + (al.length - 1) + 1 by omega, nI_pred, nI_sub (by omega)]
    congr 1
    omega
  rw [e2]
  by_cases hw : 40 ≤ st + (al.length - 1 - i)
  · rw [if_pos (nI_le hw (by omega)), nI_sub hw, nI_mul]
    congr 1
    omega
  · rw [if_neg (nI_ge (by omega) (by omega)), nI_mul]
    congr 1
    omega

/-- the log: the class's ring and the reference's row -/
def RgL (R : aM) (f : Nat → Int32) (al : List (Nat → Int32)) : Prop := ∃ st, st < 60 ∧ R.1 26 1 = nI 60 ∧ R.1 26 2 = nI 3 ∧ R.1 26 3 = nI al.length ∧ R.1 26 4 = nI st ∧ al.length ≤ 60 ∧ f 1741 = nI al.length ∧ ∀ j x, al[j]? = some x → (∀ c, c < 3 → R.2.1 27 (((st + j) % 60) * 3 + c) = x c) ∧ (∀ c, c < 3 → f (1741 + 1 + 3 * j + c) = x c)
theorem RgL.cg {R R' : aM} {f f' : Nat → Int32} {al : List (Nat → Int32)} (h : RgL R f al) (h1 : R'.1 26 = R.1 26) (h2 : R'.2.1 27 = R.2.1 27) (h3 : ∀ i, i < 1 + 3 * 60 → f' (1741 + i) = f (1741 + i)) : RgL R' f' al := by
  obtain ⟨st, a1, a2, a3, a4, a5, a6, a7, a8⟩ := h
  have h30 := h3 0 (by omega)
  rw [Nat.add_zero] at h30
  refine ⟨st, a1, by rw [h1]; exact a2, by rw [h1]; exact a3, by rw [h1]; exact a4, by rw [h1]; exact a5, a6, by rw [h30]; exact a7, fun j x hj => ?_⟩
  have hjl := (List.getElem?_eq_some_iff.mp hj).1
  obtain ⟨b1, b2⟩ := a8 j x hj
  refine ⟨fun c hc => by rw [h2]; exact b1 c hc, fun c hc => ?_⟩
  have := h3 (1 + 3 * j + c) (by omega)
  rw [show 1741 + 1 + 3 * j + c = 1741 + (1 + 3 * j + c) by omega, this, ← b2 c hc]
  congr 1
  omega
def RgL_p (al : List (Nat → Int32)) (x : Nat → Int32) : List (Nat → Int32) := if al.length < 60 then al ++ [x] else al.tail ++ [x]
theorem RgL_pl {al : List (Nat → Int32)} {x : Nat → Int32} (h : al.length ≤ 60) : (RgL_p al x).length = (if al.length < 60 then al.length + 1 else 60) := by
  unfold RgL_p
  split
  · simp
  · simp; omega
theorem RgL_place {R : aM} {f : Nat → Int32} {al : List (Nat → Int32)} (h : RgL R f al) (x : Nat → Int32) : ∃ st st', R.1 26 4 = nI st ∧ st < 60 ∧ st' < 60 ∧ (tdOpen R 26).1 26 1 = nI 60 ∧ (tdOpen R 26).1 26 2 = nI 3 ∧ (tdOpen R 26).1 26 3 = nI (RgL_p al x).length ∧ (tdOpen R 26).1 26 4 = nI st' ∧ st' = (if al.length < 60 then st else (st + 1) % 60) ∧ tdPl (tdOpen R 26) 26 0 = nI (((st' + ((RgL_p al x).length - 1)) % 60) * 3) := by
  obtain ⟨st, a1, a2, a3, a4, a5, a6, a7, a8⟩ := h
  have hl := RgL_pl (x := x) a6
  by_cases hc : al.length < 60
  · rw [if_pos hc] at hl
    have e1 : ¬ R.1 26 1 ≤ R.1 26 3 := by rw [a2, a4]; exact nI_ge hc (by omega)
    have eT : tdOpen R 26 = mI R 26 3 (R.1 26 3 + 1) := if_neg e1
    rw [eT]
    refine ⟨st, st, a5, a1, a1, ?_, ?_, ?_, ?_, by rw [if_pos hc], ?_⟩
    · simp only [mI_I]; exact a2
    · simp only [mI_I]; exact a3
    · simp only [mI_I, a4, nI_1, hl, and_self, if_true]
    · simp only [mI_I]; exact a5
    · simp only [tdPl, mI_I, and_self, if_true, a2, a3, a4, a5, hl, Nat.reduceEqDiff, and_false, if_false, nI_1, nI_add]
      have e2 : nI (st + (al.length + 1)) - 1 - 0 = nI (st + al.length) := by
        rw [show st + (al.length + 1) = st + al.length + 1 by omega, nI_pred, Int32.sub_zero]
      rw [e2]
      by_cases hw : 60 ≤ st + al.length
      · rw [if_pos (nI_le hw (by omega)), nI_sub hw, nI_mul]
        congr 1
        omega
      · rw [if_neg (nI_ge (by omega) (by omega)), nI_mul]
        congr 1
        omega
  · rw [if_neg hc] at hl
    have e0 : al.length = 60 := by omega
    have e1 : R.1 26 1 ≤ R.1 26 3 := by rw [a2, a4, e0]; exact Int32.le_refl _
    have e3 : (if R.1 26 1 ≤ R.1 26 4 + 1 then (0 : Int32) else R.1 26 4 + 1) = nI ((st + 1) % 60) := by
      rw [a2, a5, nI_1]
      by_cases hw : 60 ≤ st + 1
      · rw [if_pos (nI_le hw (by omega)), show st + 1 = 60 by omega]; rfl
      · rw [if_neg (nI_ge (by omega) (by omega))]
        congr 1
        omega
    have hst : (st + 1) % 60 < 60 := Nat.mod_lt _ (by decide)
    have eT : tdOpen R 26 = mI R 26 4 (nI ((st + 1) % 60)) := by
      unfold tdOpen
      rw [if_pos e1, e3]
    rw [eT]
    refine ⟨st, (st + 1) % 60, a5, a1, hst, ?_, ?_, ?_, ?_, by rw [if_neg hc], ?_⟩
    · simp only [mI_I]; exact a2
    · simp only [mI_I]; exact a3
    · simp only [mI_I, Nat.reduceEqDiff, and_false, if_false, hl, a4, e0]
    · simp only [mI_I, and_self, if_true]
    · simp only [tdPl, mI_I, and_self, if_true, Nat.reduceEqDiff, and_false, if_false]
      generalize (st + 1) % 60 = st' at hst ⊢
      simp only [a2, a3, a4, e0, hl, nI_add]
      have e2 : nI (st' + 60) - 1 - 0 = nI (st' + (60 - 1)) := by
        rw [show st' + 60 = st' + (60 - 1) + 1 by omega, nI_pred, Int32.sub_zero]
      rw [e2]
      by_cases hw : 60 ≤ st' + (60 - 1)
      · rw [if_pos (nI_le hw (by omega)), nI_sub hw, nI_mul]
        congr 1
        omega
      · rw [if_neg (nI_ge (by omega) (by omega)), nI_mul]
        congr 1
        omega
theorem RgL_push {R R' : aM} {f f' : Nat → Int32} {al : List (Nat → Int32)} {x : Nat → Int32} {P : Nat} (h : RgL R f al) (hP : tdPl (tdOpen R 26) 26 0 = nI P) (hp : P + 3 ≤ 3 * 60) (h1 : R'.1 26 = (tdOpen R 26).1 26) (h2 : ∀ c, c < 3 → R'.2.1 27 (P + c) = x c) (h3 : ∀ i, (i < P ∨ P + 3 ≤ i) → R'.2.1 27 i = R.2.1 27 i)
    (g1 : f' 1741 = nI (RgL_p al x).length) (g2 : al.length < 60 → (∀ i, i < 3 * al.length → f' (1741 + 1 + i) = f (1741 + 1 + i)) ∧ ∀ c, c < 3 → f' (1741 + 1 + 3 * al.length + c) = x c) (g3 : al.length = 60 → (∀ i, i < 3 * (60 - 1) → f' (1741 + 1 + i) = f (1741 + 1 + i + 3)) ∧ ∀ c, c < 3 → f' (1741 + 1 + 3 * (60 - 1) + c) = x c) : RgL R' f' (RgL_p al x) := by
  obtain ⟨st0, st', k0, k1, k2, k3, k4, k5, k6, k7, k8⟩ := RgL_place h x
  obtain ⟨st, a1, a2, a3, a4, a5, a6, a7, a8⟩ := h
  have hst : st0 = st := (nI_eq (by omega) (by omega)).mp (k0.symm.trans a5)
  subst hst
  have hl := RgL_pl (x := x) a6
  have hPe : P = ((st' + ((RgL_p al x).length - 1)) % 60) * 3 := (nI_eq (by omega) (by omega)).mp (hP.symm.trans k8)
  refine ⟨st', k2, by rw [h1]; exact k3, by rw [h1]; exact k4, by rw [h1]; exact k5, by rw [h1]; exact k6, by rw [hl]; split <;> omega, g1, fun j y hj => ?_⟩
  by_cases hc : al.length < 60
  · rw [if_pos hc] at hl k7
    subst k7
    rw [hl] at hPe
    have hj' : (al ++ [x])[j]? = some y := by
      unfold RgL_p at hj
      rw [if_pos hc] at hj
      exact hj
    obtain ⟨q1, q2⟩ := g2 hc
    by_cases hjl : j < al.length
    · rw [List.getElem?_append_left hjl] at hj'
      obtain ⟨b1, b2⟩ := a8 j y hj'
      refine ⟨fun c hcc => ?_, fun c hcc => ?_⟩
      · rw [h3 _ (by omega)]; exact b1 c hcc
      · rw [← b2 c hcc, show 1741 + 1 + 3 * j + c = 1741 + 1 + (3 * j + c) by omega]
        exact q1 _ (by omega)
    · rw [List.getElem?_append_right (by omega)] at hj'
      have hz : j - al.length < 1 := (List.getElem?_eq_some_iff.mp hj').1
      have hj0 : j = al.length := by omega
      subst hj0
      rw [Nat.sub_self] at hj'
      cases hj'
      refine ⟨fun c hcc => ?_, fun c hcc => q2 c hcc⟩
      rw [show (st' + al.length) % 60 * 3 + c = P + c by omega]
      exact h2 c hcc
  · rw [if_neg hc] at hl k7
    have e0 : al.length = 60 := by omega
    rw [hl] at hPe
    have hj' : (al.tail ++ [x])[j]? = some y := by
      unfold RgL_p at hj
      rw [if_neg hc] at hj
      exact hj
    have htl : al.tail.length = 60 - 1 := by simp [e0]
    obtain ⟨q1, q2⟩ := g3 e0
    by_cases hjl : j < 60 - 1
    · rw [List.getElem?_append_left (by omega), List.getElem?_tail] at hj'
      obtain ⟨b1, b2⟩ := a8 (j + 1) y hj'
      refine ⟨fun c hcc => ?_, fun c hcc => ?_⟩
      · rw [h3 _ (by omega), show (st' + j) % 60 = (st0 + (j + 1)) % 60 by omega]
        exact b1 c hcc
      · rw [← b2 c hcc, show 1741 + 1 + 3 * j + c = 1741 + 1 + (3 * j + c) by omega, q1 _ (by omega)]
        congr 1
        omega
    · rw [List.getElem?_append_right (by omega)] at hj'
      have hz : j - al.tail.length < 1 := (List.getElem?_eq_some_iff.mp hj').1
      have hj0 : j = 60 - 1 := by omega
      subst hj0
      rw [htl, Nat.sub_self] at hj'
      cases hj'
      refine ⟨fun c hcc => ?_, fun c hcc => q2 c hcc⟩
      rw [show (st' + (60 - 1)) % 60 * 3 + c = P + c by omega]
      exact h2 c hcc
theorem RgL_told {R : aM} {f : Nat → Int32} {al : List (Nat → Int32)} {i : Nat} (h : RgL R f al) (hi : i < al.length) : ∃ x P, al[al.length - 1 - i]? = some x ∧ tdPl R 26 (nI i) = nI P ∧ P + 3 ≤ 3 * 60 ∧ (∀ c, c < 3 → R.2.1 27 (P + c) = x c) ∧ (∀ c, c < 3 → f (1741 + 1 + 3 * (al.length - 1 - i) + c) = x c) := by
  obtain ⟨st, a1, a2, a3, a4, a5, a6, a7, a8⟩ := h
  have hx : al[al.length - 1 - i]? = some (al[al.length - 1 - i]'(by omega)) := List.getElem?_eq_getElem (by omega)
  obtain ⟨b1, b2⟩ := a8 _ _ hx
  refine ⟨_, ((st + (al.length - 1 - i)) % 60) * 3, hx, ?_, by omega, b1, b2⟩
  simp only [tdPl, a2, a3, a4, a5, nI_add]
  have e2 : nI (st + al.length) - 1 - nI i = nI (st + (al.length - 1 - i)) := by
    rw [show st + al.length = st + (al.length - 1) + 1 by omega, nI_pred, nI_sub (by omega)]
    congr 1
    omega
  rw [e2]
  by_cases hw : 60 ≤ st + (al.length - 1 - i)
  · rw [if_pos (nI_le hw (by omega)), nI_sub hw, nI_mul]
    congr 1
    omega
  · rw [if_neg (nI_ge (by omega) (by omega)), nI_mul]
    congr 1
    omega
