/-! THE SLOT: number, from, to, when it came, read (0, 1), asks, whose (0: nobody's, s + 1: of s), level -/
abbrev Se : Type := Int32 × Nat × Nat × Int32 × Nat × Nat × Nat × Int32
abbrev zN (e : Se) : Int32 := e.1
abbrev zF (e : Se) : Nat := e.2.1
abbrev zT (e : Se) : Nat := e.2.2.1
abbrev zB (e : Se) : Int32 := e.2.2.2.1
abbrev zR (e : Se) : Nat := e.2.2.2.2.1
abbrev zA (e : Se) : Nat := e.2.2.2.2.2.1
abbrev zW (e : Se) : Nat := e.2.2.2.2.2.2.1
abbrev zL (e : Se) : Int32 := e.2.2.2.2.2.2.2
def wI (o : Nat) : Int32 := if o = 0 then -1 else nI (o - 1)
def zOk (e : Se) : Prop := zF e < 8 ∧ zT e < 8 ∧ zR e < 2 ∧ zA e < 8 ∧ zW e ≤ 8 ∧ (zN e = 0 → zR e = 0) ∧ (¬ zN e = 0 → 0 < zN e)
/-- the class's slot -/
def cS (R : aM) (e : Se) : Prop := R.1 30 1 = zN e ∧ R.1 30 6 = nI (zR e) ∧ R.1 30 7 = nI (zA e) ∧ R.1 30 8 = wI (zW e) ∧ (¬ zN e = 0 → R.1 30 2 = nI (zF e) ∧ R.1 30 3 = nI (zT e) ∧ R.1 30 5 = zB e ∧ R.1 30 4 = zL e)
/-- the reference's -/
def mS (W : aM) (e : Se) : Prop := W.1 0 22 = zN e ∧ W.1 0 26 = nI (zR e) ∧ W.1 0 27 = nI (zA e) ∧ W.1 0 28 = nI (zW e) ∧ (¬ zN e = 0 → W.1 0 23 = nI (zF e) ∧ W.1 0 24 = nI (zT e) ∧ W.1 0 25 = zB e)
theorem cS.cg {R R' : aM} {e : Se} (h : cS R e) (hq : R'.1 30 = R.1 30) : cS R' e := by
  unfold cS at h ⊢
  rw [hq]
  exact h
/-- a slot on a hop of the class, at the place o -/
def cH (A : Nat → Int32) (o : Nat) : Option Se → Prop
  | none => A (o + 5) = 0
  | some e => A o = zN e ∧ A (o + 5) = (if zR e = 0 then 1 else 2) ∧ A (o + 6) = nI (zA e) ∧ A (o + 7) = wI (zW e) ∧ (¬ zN e = 0 → A (o + 1) = nI (zF e) ∧ A (o + 2) = nI (zT e) ∧ A (o + 3) = zL e ∧ A (o + 4) = zB e)
def hdN (e : Se) : Nat := zA e + 8 * zR e + 16 + 32 * zW e
/-- a slot on a hop of the reference, at the place r -/
def mH (f : Nat → Int32) (r : Nat) : Option Se → Prop
  | none => f r = 0
  | some e => f r = nI (hdN e) ∧ f (r + 1) = zN e ∧ (¬ zN e = 0 → f (r + 2) = nI (zF e) ∧ f (r + 3) = nI (zT e) ∧ f (r + 4) = zB e)
theorem cH.cg {A A' : Nat → Int32} {o : Nat} {x : Option Se} (h : cH A o x) (hq : ∀ i, i < 8 → A' (o + i) = A (o + i)) : cH A' o x := by
  cases x with
  | none => show A' (o + 5) = 0; rw [hq 5 (by omega)]; exact h
  | some e =>
    unfold cH at h ⊢
    have h0 := hq 0 (by omega)
    rw [Nat.add_zero] at h0
    rw [h0, hq 1 (by omega), hq 2 (by omega), hq 3 (by omega), hq 4 (by omega), hq 5 (by omega), hq 6 (by omega), hq 7 (by omega)]
    exact h
theorem mH.cg {f f' : Nat → Int32} {r r' : Nat} {x : Option Se} (h : mH f r x) (hq : ∀ i, i < 5 → f' (r' + i) = f (r + i)) : mH f' r' x := by
  have h0 := hq 0 (by omega)
  rw [Nat.add_zero, Nat.add_zero] at h0
  cases x with
  | none => show f' r' = 0; rw [h0]; exact h
  | some e =>
    unfold mH at h ⊢
    rw [h0, hq 1 (by omega), hq 2 (by omega), hq 3 (by omega), hq 4 (by omega)]
    exact h
theorem hd_enc : ∀ a, a < 8 → ∀ r, r < 2 → ∀ w, w < 9 → (nI a ||| nI r <<< ((3 : Int32) &&& 31) ||| (16 : Int32) ||| nI w <<< ((5 : Int32) &&& 31)) = nI (a + 8 * r + 16 + 32 * w) := by decide +kernel
theorem hd_dec : ∀ a, a < 8 → ∀ r, r < 2 → ∀ w, w < 9 → ¬ (nI (a + 8 * r + 16 + 32 * w) >>> ((4 : Int32) &&& 31)) &&& 1 = 0 ∧ (nI (a + 8 * r + 16 + 32 * w) >>> ((3 : Int32) &&& 31)) &&& 1 = nI r ∧ nI (a + 8 * r + 16 + 32 * w) &&& 7 = nI a ∧ nI (a + 8 * r + 16 + 32 * w) >>> ((5 : Int32) &&& 31) = nI w := by decide +kernel
theorem mod_ne {a b m : Nat} (h1 : a < b) (h2 : b < a + m) : ¬ a % m = b % m := by
  intro h
  have h3 := Nat.sub_mod_eq_zero_of_mod_eq h.symm
  rw [Nat.mod_eq_of_lt (by omega)] at h3
  omega
/-- a hop of a bus: what is on it, the oldest first; t: when the next one comes on it -/
def Lane (A f : Nat → Int32) (q dl t : Nat) (L : List (Option Se)) : Prop :=
  f (1200 + 25 * q) = nI L.length ∧ L.length ≤ dl + 1 ∧ L.length ≤ t ∧
  (∀ j x, L[j]? = some x → mH f (1200 + 25 * q + 1 + 6 * j) x ∧ cH A (q * 32 + ((t - L.length + j) % (dl + 1)) * 8) x ∧ ∀ e, x = some e → zOk e) ∧
  (∀ k, k < 4 → (∀ j, j < L.length → ¬ (t - L.length + j) % (dl + 1) = k) → A (q * 32 + k * 8 + 5) = 0)
theorem Lane.cg {A A' f f' : Nat → Int32} {q dl t : Nat} {L : List (Option Se)} (h : Lane A f q dl t L) (hdl : dl ≤ 3) (hA : ∀ i, i < 32 → A' (q * 32 + i) = A (q * 32 + i)) (hf : ∀ i, i < 25 → f' (1200 + 25 * q + i) = f (1200 + 25 * q + i)) : Lane A' f' q dl t L := by
  obtain ⟨h1, h2, h3, h4, h5⟩ := h
  have hf0 := hf 0 (by omega)
  rw [Nat.add_zero] at hf0
  refine ⟨by rw [hf0]; exact h1, h2, h3, fun j x hj => ?_, fun k hk hn => ?_⟩
  · have hjl := (List.getElem?_eq_some_iff.mp hj).1
    obtain ⟨a1, a2, a3⟩ := h4 j x hj
    refine ⟨a1.cg (fun i hi => ?_), a2.cg (fun i hi => ?_), a3⟩
    · have := hf (1 + 6 * j + i) (by omega)
      rw [show 1200 + 25 * q + 1 + 6 * j + i = 1200 + 25 * q + (1 + 6 * j + i) by omega]
      exact this
    · have hm : (t - L.length + j) % (dl + 1) < dl + 1 := Nat.mod_lt _ (by omega)
      have := hA ((t - L.length + j) % (dl + 1) * 8 + i) (by omega)
      rw [Nat.add_assoc]
      exact this
  · have := hA (k * 8 + 5) (by omega)
    rw [Nat.add_assoc, this, ← Nat.add_assoc]
    exact h5 k hk hn
theorem Lane.nil {A f : Nat → Int32} {q dl t t' : Nat} (h : Lane A f q dl t []) : Lane A f q dl t' [] := by
  obtain ⟨h1, h2, h3, h4, h5⟩ := h
  exact ⟨h1, h2, Nat.zero_le _, fun j x hj => (by cases hj), fun k hk _ => h5 k hk (fun j hj => absurd hj (Nat.not_lt_zero j))⟩
theorem Lane.free {A f : Nat → Int32} {q dl t : Nat} {L : List (Option Se)} (h : Lane A f q dl t L) (hdl : dl ≤ 3) (hl : L.length ≤ dl) : A (q * 32 + (t % (dl + 1)) * 8 + 5) = 0 := by
  obtain ⟨h1, h2, h3, h4, h5⟩ := h
  have hm : t % (dl + 1) < dl + 1 := Nat.mod_lt _ (by omega)
  exact h5 _ (by omega) (fun j hj => mod_ne (by omega) (by omega))
/-- the place o of the class's hops gets a slot -/
def hUp (A : Nat → Int32) (o : Nat) (x0 x1 x2 x3 x4 x5 x6 x7 : Int32) : Nat → Int32 := up (up (up (up (up (up (up (up A o x0) (o + 1) x1) (o + 2) x2) (o + 3) x3) (o + 4) x4) (o + 5) x5) (o + 6) x6) (o + 7) x7
theorem hUp_o {A : Nat → Int32} {o i : Nat} {x0 x1 x2 x3 x4 x5 x6 x7 : Int32} (h : i < o ∨ o + 8 ≤ i) : hUp A o x0 x1 x2 x3 x4 x5 x6 x7 i = A i := by
  unfold hUp
  simp (disch := omega) only [up_o]
theorem mA_up (R : aM) (k j : Nat) (v : Int32) : (mA R k j v).2.1 k = up (R.2.1 k) j v := by
  funext i
  simp [mA, up2, up]
theorem hPut_A (R : aM) (o : Nat) : (hPut R o).2.1 18 = hUp (R.2.1 18) o (R.1 30 1) (R.1 30 2) (R.1 30 3) (R.1 30 4) (R.1 30 5) (if R.1 30 6 = 0 then 1 else 2) (R.1 30 7) (R.1 30 8) := by
  unfold hPut hUp
  simp only [mA_up]
theorem mPut_o {W : aM} {f : Nat → Int32} {r c i : Nat} (h : ¬ i = r ∧ (i < r + 1 + 6 * c ∨ r + 1 + 6 * c + 5 ≤ i)) : mPut W f r c i = f i := by
  unfold mPut
  simp (disch := omega) only [up_o]
theorem eX (x : Option Se) : (∃ e, x = some e) ∨ x = none := by cases x with
  | none => exact Or.inr rfl
  | some e => exact Or.inl ⟨e, rfl⟩
/-- a slot, or none, comes onto a hop -/
theorem Lane_put {R R' W : aM} {f : Nat → Int32} {q dl t : Nat} {L : List (Option Se)} {x : Option Se} (h : Lane (R.2.1 18) f q dl t L) (hdl : dl ≤ 3) (hl : L.length ≤ dl) (hq : q < 14)
    (hx : (∃ e, x = some e ∧ zOk e ∧ cS R e ∧ mS W e ∧ ¬ W.1 0 21 = 0 ∧ R'.2.1 18 = (hPut R (q * 32 + t % (dl + 1) * 8)).2.1 18) ∨ (x = none ∧ W.1 0 21 = 0 ∧ R'.2.1 18 = R.2.1 18)) :
    Lane (R'.2.1 18) (mPut W f (1200 + 25 * q) L.length) q dl (t + 1) (L ++ [x]) := by
  have hfree := h.free hdl hl
  obtain ⟨h1, h2, h3, h4, h5⟩ := h
  have hm : t % (dl + 1) < dl + 1 := Nat.mod_lt _ (by omega)
  have hlen : (L ++ [x]).length = L.length + 1 := by simp
  have ht : t + 1 - (L.length + 1) = t - L.length := by omega
  have hother : ∀ i, (i < q * 32 + t % (dl + 1) * 8 ∨ q * 32 + t % (dl + 1) * 8 + 8 ≤ i) → R'.2.1 18 i = R.2.1 18 i := by
    intro i hi
    rcases hx with ⟨e, -, -, -, -, -, q1⟩ | ⟨-, -, q1⟩
    · rw [q1, hPut_A, hUp_o hi]
    · rw [q1]
  refine ⟨?_, by omega, by omega, fun j y hj => ?_, fun k hk hn => ?_⟩
  · rw [hlen]; exact up_s _ _ _
  · rw [hlen, ht]
    by_cases hjl : j < L.length
    · rw [List.getElem?_append_left hjl] at hj
      obtain ⟨a1, a2, a3⟩ := h4 j y hj
      have hne : ¬ (t - L.length + j) % (dl + 1) = t % (dl + 1) := mod_ne (by omega) (by omega)
      refine ⟨a1.cg (fun i hi => mPut_o (by omega)), a2.cg (fun i hi => hother _ ?_), a3⟩
      omega
    · rw [List.getElem?_append_right (by omega)] at hj
      have hz : j - L.length < 1 := (List.getElem?_eq_some_iff.mp hj).1
      have hj0 : j = L.length := by omega
      subst hj0
      rw [Nat.sub_self] at hj
      cases hj
      rw [show t - L.length + L.length = t by omega]
      rcases hx with ⟨e, q1, q2, q3, q4, q5, q6⟩ | ⟨q1, q2, q3⟩
      · subst q1
        obtain ⟨b1, b2, b3, b4, b5⟩ := q3
        obtain ⟨c1, c2, c3, c4, c5⟩ := q4
        obtain ⟨d1, d2, d3, d4, d5, d6, d7⟩ := q2
        refine ⟨?_, ?_, fun e' he => by cases he; exact ⟨d1, d2, d3, d4, d5, d6, d7⟩⟩
        · have hh : mHd W = nI (hdN e) := by
            unfold mHd hdN
            rw [if_neg q5, c2, c3, c4]
            exact hd_enc _ d4 _ d3 _ (by omega)
          unfold mH mPut
          simp (disch := omega) only [up_o, up_s, hh]
          exact ⟨trivial, c1, c5⟩
        · rw [q6, hPut_A]
          unfold cH hUp
          simp (disch := omega) only [up_o, up_s]
          refine ⟨b1, ?_, b3, b4, fun hz => ?_⟩
          · rw [b2]
            by_cases hr : zR e = 0
            · rw [if_pos hr, hr]; rfl
            · rw [if_neg hr, if_neg (nI_ne0 (by omega) (by omega))]
          · obtain ⟨g1, g2, g3, g4⟩ := b5 hz
            exact ⟨g1, g2, g4, g3⟩
      · subst q1
        refine ⟨?_, ?_, fun e' he => by cases he⟩
        · unfold mH mPut
          simp (disch := omega) only [up_o, up_s]
          unfold mHd
          rw [if_pos q2]
        · show R'.2.1 18 _ = 0
          rw [q3]
          exact hfree
  · rw [hlen, ht] at hn
    have hk1 : ¬ t % (dl + 1) = k := by
      have := hn L.length (by omega)
      rw [show t - L.length + L.length = t by omega] at this
      exact this
    rw [hother _ (by omega)]
    exact h5 k hk (fun j hj => hn j (by omega))
theorem hTake_A (R : aM) (o : Nat) : (hTake R o).2.1 18 = up (R.2.1 18) (o + 5) 0 := by
  unfold hTake
  rw [mA_up]
  rfl
theorem mGetF_o {f : Nat → Int32} {r c i : Nat} (h : i < r ∨ r + 1 + 6 * (c - 1) ≤ i) (hc : 0 < c) : mGetF f r c i = f i := by
  unfold mGetF
  rw [up_o (by omega), shf_o (by omega)]
/-- nothing comes from a hop -/
theorem Lane_no {R R' : aM} {f : Nat → Int32} {q dl t : Nat} {L : List (Option Se)} (h : Lane (R.2.1 18) f q dl t L) (hdl : dl ≤ 3) (hl : L.length ≤ dl) (hR : R' = hTake R (q * 32 + t % (dl + 1) * 8)) : Lane (R'.2.1 18) f q dl t L ∧ R'.1 30 0 = 0 := by
  have hfree := h.free hdl hl
  subst hR
  refine ⟨h.cg hdl (fun i _ => ?_) (fun _ _ => rfl), ?_⟩
  · rw [hTake_A]
    by_cases hi : q * 32 + i = q * 32 + t % (dl + 1) * 8 + 5
    · rw [hi, up_s, hfree]
    · rw [up_o hi]
  · unfold hTake
    simp only [nl_sti, nl_str, nl_ci, nl_cr, nl_nil, ld_cons, ld_st, lr_some, li_some, lj_some, n2_nl, n2_ci, n2_cr, n2_nil, n2_sti, n2_str, tl_some, tl_none, cat_le, List.length_cons, List.length_nil, Option.bind_some, Option.bind_none, Option.map_some, cond_true, cond_false, Bool.and_true, Bool.true_and, reduceIte, Nat.reduceEqDiff, Nat.reduceAdd, Nat.reduceLeDiff, Nat.zero_add, Nat.zero_le, Nat.zero_ne_one, Nat.one_ne_zero, Nat.reduceLT, true_or, or_true, false_or, or_false, false_and, true_and, and_false, and_true, not_false_eq_true, not_true_eq_false, eq_self, mA_A, mA_I, mI_A, mI_I, b01, b10, b01n, b10n, i10, i01, im0, ei_max, ei_min, ei_obj, n30, n20, hfree]
/-- the oldest comes from a hop -/
theorem Lane_get {R R' W : aM} {f : Nat → Int32} {q dl t : Nat} {L : List (Option Se)} {x : Option Se} (h : Lane (R.2.1 18) f q dl t (x :: L)) (hdl : dl ≤ 3) (hl : L.length = dl) (hR : R' = hTake R (q * 32 + t % (dl + 1) * 8)) :
    Lane (R'.2.1 18) (mGetF f (1200 + 25 * q) (dl + 1)) q dl t L ∧
    ((∃ e, x = some e ∧ zOk e ∧ cS R' e ∧ mS (mGetW W f (1200 + 25 * q)) e ∧ R'.1 30 0 = 1 ∧ (mGetW W f (1200 + 25 * q)).1 0 21 = 1) ∨ (x = none ∧ R'.1 30 0 = 0 ∧ (mGetW W f (1200 + 25 * q)).1 0 21 = 0)) := by
  obtain ⟨h1, h2, h3, h4, h5⟩ := h
  simp only [List.length_cons, hl] at h1 h2 h3 h4 h5
  have hm : t % (dl + 1) < dl + 1 := Nat.mod_lt _ (by omega)
  have hp0 : (t - (dl + 1) + 0) % (dl + 1) = t % (dl + 1) := by
    rw [Nat.add_zero, ← Nat.add_mod_right (t - (dl + 1)) (dl + 1)]
    congr 1
    omega
  obtain ⟨a1, a2, a3⟩ := h4 0 x rfl
  rw [hp0] at a2
  refine ⟨⟨?_, by omega, by omega, fun j y hj => ?_, fun k hk hn => ?_⟩, ?_⟩
  · unfold mGetF
    rw [up_s, hl]
    rfl
  · have hjl := (List.getElem?_eq_some_iff.mp hj).1
    obtain ⟨b1, b2, b3⟩ := h4 (j + 1) y hj
    rw [show t - (dl + 1) + (j + 1) = t - L.length + j by omega] at b2
    refine ⟨b1.cg (fun i hi => ?_), b2.cg (fun i hi => ?_), b3⟩
    · unfold mGetF
      rw [up_o (by omega)]
      unfold shf
      rw [if_pos (by omega)]
      congr 1
      omega
    · have hne : ¬ (t - L.length + j) % (dl + 1) = t % (dl + 1) := mod_ne (by omega) (by omega)
      rw [hR, hTake_A, up_o (by omega)]
  · rw [hR, hTake_A]
    by_cases hk1 : k = t % (dl + 1)
    · rw [hk1, up_s]
    · rw [up_o (by omega)]
      refine h5 k hk (fun j hj => ?_)
      cases j with
      | zero => rw [hp0]; exact fun q => hk1 q.symm
      | succ j =>
        rw [show t - (dl + 1) + (j + 1) = t - L.length + j by omega]
        exact hn j (by omega)
  · rcases eX x with ⟨e, rfl⟩ | rfl
    · left
      have he := a3 e rfl
      refine ⟨e, rfl, he, ?_⟩
      obtain ⟨d1, d2, d3, d4, d5, d6, d7⟩ := he
      obtain ⟨c1, c2, c3⟩ := a1
      obtain ⟨b1, b2, b3, b4, b5⟩ := a2
      obtain ⟨g1, g2, g3, g4⟩ := hd_dec _ d4 _ d3 _ (show zW e < 9 by omega)
      simp only [Nat.mul_zero, Nat.add_zero] at c1 c2 c3
      rw [show 1200 + 25 * q + 1 + 1 = 1200 + 25 * q + 2 by omega] at c2
      have c1' : f (1200 + 25 * q + 1) = nI (zA e + 8 * zR e + 16 + 32 * zW e) := c1
      subst hR
      refine ⟨?_, ?_, ?_, ?_⟩
      · unfold cS hTake
        simp only [nl_sti, nl_str, nl_ci, nl_cr, nl_nil, ld_cons, ld_st, lr_some, li_some, lj_some, n2_nl, n2_ci, n2_cr, n2_nil, n2_sti, n2_str, tl_some, tl_none, cat_le, List.length_cons, List.length_nil, Option.bind_some, Option.bind_none, Option.map_some, cond_true, cond_false, Bool.and_true, Bool.true_and, reduceIte, Nat.reduceEqDiff, Nat.reduceAdd, Nat.reduceLeDiff, Nat.zero_add, Nat.zero_le, Nat.zero_ne_one, Nat.one_ne_zero, Nat.reduceLT, true_or, or_true, false_or, or_false, false_and, true_and, and_false, and_true, not_false_eq_true, not_true_eq_false, eq_self, mA_A, mA_I, mI_A, mI_I, b01, b10, b01n, b10n, i10, i01, im0, ei_max, ei_min, ei_obj, n30, n20]
        refine ⟨b1, ?_, b3, b4, fun hz => ?_⟩
        · rw [b2]
          rcases (show zR e = 0 ∨ zR e = 1 by omega) with hr | hr <;> rw [hr] <;> decide
        · obtain ⟨k1, k2, k3, k4⟩ := b5 hz
          exact ⟨k1, k2, k4, k3⟩
      · unfold mS mGetW
        simp only [nl_sti, nl_str, nl_ci, nl_cr, nl_nil, ld_cons, ld_st, lr_some, li_some, lj_some, n2_nl, n2_ci, n2_cr, n2_nil, n2_sti, n2_str, tl_some, tl_none, cat_le, List.length_cons, List.length_nil, Option.bind_some, Option.bind_none, Option.map_some, cond_true, cond_false, Bool.and_true, Bool.true_and, reduceIte, Nat.reduceEqDiff, Nat.reduceAdd, Nat.reduceLeDiff, Nat.zero_add, Nat.zero_le, Nat.zero_ne_one, Nat.one_ne_zero, Nat.reduceLT, true_or, or_true, false_or, or_false, false_and, true_and, and_false, and_true, not_false_eq_true, not_true_eq_false, eq_self, mA_A, mA_I, mI_A, mI_I, b01, b10, b01n, b10n, i10, i01, im0, ei_max, ei_min, ei_obj, n30, n20, c1']
        refine ⟨c2, g2, g3, g4, fun hz => ?_⟩
        obtain ⟨k1, k2, k3⟩ := c3 hz
        exact ⟨k1, k2, k3⟩
      · unfold hTake
        simp only [nl_sti, nl_str, nl_ci, nl_cr, nl_nil, ld_cons, ld_st, lr_some, li_some, lj_some, n2_nl, n2_ci, n2_cr, n2_nil, n2_sti, n2_str, tl_some, tl_none, cat_le, List.length_cons, List.length_nil, Option.bind_some, Option.bind_none, Option.map_some, cond_true, cond_false, Bool.and_true, Bool.true_and, reduceIte, Nat.reduceEqDiff, Nat.reduceAdd, Nat.reduceLeDiff, Nat.zero_add, Nat.zero_le, Nat.zero_ne_one, Nat.one_ne_zero, Nat.reduceLT, true_or, or_true, false_or, or_false, false_and, true_and, and_false, and_true, not_false_eq_true, not_true_eq_false, eq_self, mA_A, mA_I, mI_A, mI_I, b01, b10, b01n, b10n, i10, i01, im0, ei_max, ei_min, ei_obj, n30, n20, b2]
        rcases (show zR e = 0 ∨ zR e = 1 by omega) with hr | hr <;> rw [hr] <;> decide
      · unfold mGetW
        simp only [nl_sti, nl_str, nl_ci, nl_cr, nl_nil, ld_cons, ld_st, lr_some, li_some, lj_some, n2_nl, n2_ci, n2_cr, n2_nil, n2_sti, n2_str, tl_some, tl_none, cat_le, List.length_cons, List.length_nil, Option.bind_some, Option.bind_none, Option.map_some, cond_true, cond_false, Bool.and_true, Bool.true_and, reduceIte, Nat.reduceEqDiff, Nat.reduceAdd, Nat.reduceLeDiff, Nat.zero_add, Nat.zero_le, Nat.zero_ne_one, Nat.one_ne_zero, Nat.reduceLT, true_or, or_true, false_or, or_false, false_and, true_and, and_false, and_true, not_false_eq_true, not_true_eq_false, eq_self, mA_A, mA_I, mI_A, mI_I, b01, b10, b01n, b10n, i10, i01, im0, ei_max, ei_min, ei_obj, n30, n20, c1', g1]
    · right
      refine ⟨rfl, ?_, ?_⟩
      · subst hR
        have a2' : R.2.1 18 (q * 32 + t % (dl + 1) * 8 + 5) = 0 := a2
        unfold hTake
        simp only [nl_sti, nl_str, nl_ci, nl_cr, nl_nil, ld_cons, ld_st, lr_some, li_some, lj_some, n2_nl, n2_ci, n2_cr, n2_nil, n2_sti, n2_str, tl_some, tl_none, cat_le, List.length_cons, List.length_nil, Option.bind_some, Option.bind_none, Option.map_some, cond_true, cond_false, Bool.and_true, Bool.true_and, reduceIte, Nat.reduceEqDiff, Nat.reduceAdd, Nat.reduceLeDiff, Nat.zero_add, Nat.zero_le, Nat.zero_ne_one, Nat.one_ne_zero, Nat.reduceLT, true_or, or_true, false_or, or_false, false_and, true_and, and_false, and_true, not_false_eq_true, not_true_eq_false, eq_self, mA_A, mA_I, mI_A, mI_I, b01, b10, b01n, b10n, i10, i01, im0, ei_max, ei_min, ei_obj, n30, n20, a2']
      · have a1' : f (1200 + 25 * q + 1) = 0 := a1
        unfold mGetW
        simp only [nl_sti, nl_str, nl_ci, nl_cr, nl_nil, ld_cons, ld_st, lr_some, li_some, lj_some, n2_nl, n2_ci, n2_cr, n2_nil, n2_sti, n2_str, tl_some, tl_none, cat_le, List.length_cons, List.length_nil, Option.bind_some, Option.bind_none, Option.map_some, cond_true, cond_false, Bool.and_true, Bool.true_and, reduceIte, Nat.reduceEqDiff, Nat.reduceAdd, Nat.reduceLeDiff, Nat.zero_add, Nat.zero_le, Nat.zero_ne_one, Nat.one_ne_zero, Nat.reduceLT, true_or, or_true, false_or, or_false, false_and, true_and, and_false, and_true, not_false_eq_true, not_true_eq_false, eq_self, mA_A, mA_I, mI_A, mI_I, b01, b10, b01n, b10n, i10, i01, im0, ei_max, ei_min, ei_obj, n30, n20, a1']
        decide
