/-! CUT, HEALED, ERASERS: both alike -/
theorem upl4 {val : Nat → Nat} {p : Nat} (hp : p < 4) : upl val p 0 0 + upl val p 0 1 + upl val p 0 2 + upl val p 0 3 + val p = val 0 + val 1 + val 2 + val 3 := by
  rcases (show p = 0 ∨ p = 1 ∨ p = 2 ∨ p = 3 by omega) with rfl | rfl | rfl | rfl <;> simp only [upl, if_true, Nat.reduceEqDiff, if_false, reduceIte] <;> omega
theorem sum_lane {c m : Nat} (hm : 0 < m) (hm4 : m ≤ 4) : ∀ (suf : List (Option Se)) (i : Nat) (val : Nat → Nat), suf.length ≤ m → (∀ j x, suf[j]? = some x → val ((c + i + j) % m) = uO x) → (∀ k, k < 4 → (∀ j, j < suf.length → ¬ (c + i + j) % m = k) → val k = 0) → val 0 + val 1 + val 2 + val 3 = uL suf
  | [], i, val, hl, h1, h2 => by
    have z := fun k (hk : k < 4) => h2 k hk (fun j hj => absurd hj (Nat.not_lt_zero j))
    rw [z 0 (by omega), z 1 (by omega), z 2 (by omega), z 3 (by omega)]
    rfl
  | x :: r, i, val, hl, h1, h2 => by
    rw [List.length_cons] at hl
    have hp : (c + i) % m < m := Nat.mod_lt _ hm
    have hv := h1 0 x rfl
    rw [Nat.add_zero] at hv
    have ih := sum_lane (c := c) hm hm4 r (i + 1) (upl val ((c + i) % m) 0) (by omega) (fun j y hj => by
      have hjl := (List.getElem?_eq_some_iff.mp hj).1
      have hne : ¬ (c + i) % m = (c + (i + 1) + j) % m := mod_ne (by omega) (by omega)
      rw [upl_o (fun q => hne q.symm), show c + (i + 1) + j = c + i + (j + 1) by omega]
      exact h1 (j + 1) y hj) (fun k hk hn => by
      by_cases hkp : k = (c + i) % m
      · rw [hkp, upl_s]
      · rw [upl_o hkp]
        refine h2 k hk (fun j hj => ?_)
        cases j with
        | zero => rw [Nat.add_zero]; exact fun q => hkp q.symm
        | succ j =>
          rw [show c + i + (j + 1) = c + (i + 1) + j by omega]
          exact hn j (by rw [List.length_cons] at hj; omega))
    have := upl4 (val := val) (show (c + i) % m < 4 by omega)
    rw [uL_cons]
    omega
theorem Lane_cnt {A f : Nat → Int32} {q dl t : Nat} {L : List (Option Se)} (h : Lane A f q dl t L) (hdl : dl ≤ 3) : sl1 A (q * 32) + sl1 A (q * 32 + 8) + sl1 A (q * 32 + 16) + sl1 A (q * 32 + 24) = uL L := by
  obtain ⟨h1, h2, h3, h4, h5⟩ := h
  have := sum_lane (c := t - L.length) (m := dl + 1) (by omega) (by omega) L 0 (fun k => sl1 A (q * 32 + k * 8)) h2 (fun j x hj => by
    obtain ⟨-, g2, g3⟩ := h4 j x hj
    rw [Nat.add_zero]
    show sl1 A (q * 32 + (t - L.length + j) % (dl + 1) * 8) = uO x
    generalize q * 32 + (t - L.length + j) % (dl + 1) * 8 = o at g2
    unfold sl1
    rcases eX x with ⟨e, rfl⟩ | rfl
    · obtain ⟨k1, k2, -⟩ := g2
      obtain ⟨z1, z2, z3, -⟩ := g3 e rfl
      rw [k1, k2]
      show _ = ur e
      unfold ur
      by_cases c1 : zR e = 0
      · rw [if_pos c1, if_pos rfl]
        by_cases c2 : zN e = 0
        · rw [if_pos c2, if_pos (Or.inl c2)]
        · rw [if_neg c2, if_neg (fun q => q.elim c2 (fun q => q c1))]
      · rw [if_neg c1, if_neg (by decide), if_pos (Or.inr c1)]
    · have k : A (o + 5) = 0 := g2
      rw [k, if_neg (by decide)]
      rfl) (fun k hk hn => by
    have := h5 k hk (fun j hj => by have := hn j hj; rwa [Nat.add_zero] at this)
    show sl1 A (q * 32 + k * 8) = 0
    unfold sl1
    rw [this, if_neg (by decide)])
  exact this
theorem hCt_8 (A : Nat → Int32) (p : Nat) : hCt A 8 (p * 64) = (sl1 A (2 * p * 32) + sl1 A (2 * p * 32 + 8) + sl1 A (2 * p * 32 + 16) + sl1 A (2 * p * 32 + 24)) + (sl1 A ((2 * p + 1) * 32) + sl1 A ((2 * p + 1) * 32 + 8) + sl1 A ((2 * p + 1) * 32 + 16) + sl1 A ((2 * p + 1) * 32 + 24)) := by
  simp only [hCt]
  rw [show 2 * p * 32 = p * 64 by omega, show (2 * p + 1) * 32 = p * 64 + 32 by omega]
  simp only [Nat.add_assoc, Nat.reduceAdd, Nat.add_zero]
theorem hEm_I : ∀ (k o : Nat) (R : aM), (hEm k o R).1 = R.1
  | 0, _, _ => rfl
  | k + 1, o, R => hEm_I k (o + 8) _
theorem hEm_A {j : Nat} (hj : ¬ j = 18) : ∀ (k o : Nat) (R : aM), (hEm k o R).2.1 j = R.2.1 j
  | 0, _, _ => rfl
  | k + 1, o, R => (hEm_A hj k (o + 8) _).trans (mA_o hj)
theorem hEm_o {i : Nat} : ∀ (k o : Nat) (R : aM), (i < o ∨ o + 8 * k ≤ i) → (hEm k o R).2.1 18 i = R.2.1 18 i
  | 0, _, _, _ => rfl
  | k + 1, o, R, h => (hEm_o k (o + 8) _ (by omega)).trans (by rw [mA_At, if_neg (by omega)])
theorem hEm_z {i : Nat} : ∀ (k o : Nat) (R : aM), i < k → (hEm k o R).2.1 18 (o + 8 * i + 5) = 0
  | 0, _, _, h => absurd h (Nat.not_lt_zero _)
  | k + 1, o, R, h => by
    cases i with
    | zero =>
      show (hEm k (o + 8) (mA R 18 (o + 5) 0)).2.1 18 (o + 8 * 0 + 5) = 0
      rw [hEm_o k (o + 8) _ (by omega), mA_At, if_pos (by omega)]
    | succ i =>
      have := hEm_z (i := i) k (o + 8) (mA R 18 (o + 5) 0) (by omega)
      rw [show o + 8 * (i + 1) + 5 = o + 8 + 8 * i + 5 by omega]
      exact this
theorem Lane_emp {A f : Nat → Int32} {q dl t : Nat} (hf : f (1200 + 25 * q) = 0) (hA : ∀ k, k < 4 → A (q * 32 + k * 8 + 5) = 0) : Lane A f q dl t [] :=
  ⟨hf, Nat.zero_le _, Nat.zero_le _, fun j x hj => (by cases hj), fun k hk _ => hA k hk⟩
/-- a hop is cut -/
def rCut (R : aM) (p : Nat) : aM := tLost (mI (hEm 8 (p * 64) R) 0 5 (R.1 0 5 ||| 1 <<< (nI p &&& 31))) (nI (hCt (R.2.1 18) 8 (p * 64)))
def mCut (f : Nat → Int32) (p u0 u1 : Nat) : Nat → Int32 := up (zrF (lsF (zrF (lsF f u0) (1200 + 25 * (2 * p)) 25) u1) (1200 + 25 * (2 * p + 1)) 25) 1550 (f 1550 ||| 1 <<< (nI p &&& 31))
theorem zrF_in {f : Nat → Int32} {r k j : Nat} (h : r ≤ j ∧ j < r + k) : zrF f r k j = 0 := if_pos h
theorem zrF_o {f : Nat → Int32} {r k j : Nat} (h : ¬ (r ≤ j ∧ j < r + k)) : zrF f r k j = f j := if_neg h
theorem lsF_v (f : Nat → Int32) (u : Nat) : lsF f u 1555 = f 1555 + nI u := if_pos rfl
theorem mCut_v {f : Nat → Int32} {p u0 u1 j : Nat} (hp : p < 7) : mCut f p u0 u1 j = if j = 1550 then f 1550 ||| 1 <<< (nI p &&& 31) else if j = 1555 then f 1555 + nI (u0 + u1) else if 1200 + 50 * p ≤ j ∧ j < 1250 + 50 * p then 0 else f j := by
  unfold mCut
  by_cases e1 : j = 1550
  · rw [if_pos e1, e1, up_s]
  · rw [if_neg e1, up_o e1]
    by_cases e2 : j = 1555
    · subst e2
      rw [zrF_o (by omega), lsF_v, zrF_o (by omega), lsF_v, if_pos rfl, Int32.add_assoc, nI_add]
    · rw [if_neg e2]
      by_cases e3 : 1200 + 25 * (2 * p + 1) ≤ j ∧ j < 1200 + 25 * (2 * p + 1) + 25
      · rw [zrF_in e3, if_pos (by omega)]
      · rw [zrF_o e3, lsF_o e2]
        by_cases e4 : 1200 + 25 * (2 * p) ≤ j ∧ j < 1200 + 25 * (2 * p) + 25
        · rw [zrF_in e4, if_pos (by omega)]
        · rw [zrF_o e4, lsF_o e2, if_neg (by omega)]
theorem LV_cut {z : Tg → Bool} {wl : Nat → List Sg} {Ln : Nat → List (Option Se)} {p : Nat} (hp : 2 * p + 1 < 14) : LV z wl (upl (upl Ln (2 * p) []) (2 * p + 1) []) none ≤ LV z wl Ln none := by
  have u1 := CN_upl (p := z) (Ln := upl Ln (2 * p) []) (q := 2 * p + 1) (L := []) hp
  have u2 := CN_upl (p := z) (Ln := Ln) (q := 2 * p) (L := []) (by omega)
  have e : cl z [] = 0 := rfl
  rw [e] at u1 u2
  unfold LV
  omega
theorem S_cut {R : aM} {f : Nat → Int32} {n dl bal lv t B p : Nat} {wl : Nat → List Sg} {al : List (Nat → Int32)} {lg : LgT} {Ln : Nat → List (Option Se)} (h : RI R f n dl bal lv t B wl al lg Ln) (hp : p < n - 1) :
    RI (rCut R p) (mCut f p (uL (Ln (2 * p))) (uL (Ln (2 * p + 1)))) n dl bal lv t B wl al lg (upl (upl Ln (2 * p) []) (2 * p + 1) []) ∧ hCt (R.2.1 18) 8 (p * 64) = uL (Ln (2 * p)) + uL (Ln (2 * p + 1)) := by
  obtain ⟨a1, a3, a4, a5, a6, a7, a8, a9, b1, b2, b3, b4⟩ := h
  have hdl : dl ≤ 3 := a1.1.2.2.2.1
  have hn8 : n ≤ 8 := a1.1.2.1
  have hp7 : p < 7 := by omega
  have hct : hCt (R.2.1 18) 8 (p * 64) = uL (Ln (2 * p)) + uL (Ln (2 * p + 1)) := by
    rw [hCt_8, Lane_cnt (b1.1 (2 * p) (by omega)) hdl, Lane_cnt (b1.1 (2 * p + 1) (by omega)) hdl]
  refine ⟨?_, hct⟩
  have hf : ∀ j, ¬ j = 1550 → ¬ j = 1555 → ¬ (1200 ≤ j ∧ j < 1550) → mCut f p (uL (Ln (2 * p))) (uL (Ln (2 * p + 1))) j = f j := fun j q1 q2 q3 => by rw [mCut_v hp7, if_neg q1, if_neg q2, if_neg (by omega)]
  have hI : ∀ k, ¬ k = 0 → ¬ k = 19 → (rCut R p).1 k = R.1 k := fun k q1 q2 => by
    unfold rCut tLost
    rw [mI_o q2, mI_o q2, mI_o q1, hEm_I]
  have h0 : ∀ k, ¬ k = 5 → (rCut R p).1 0 k = R.1 0 k := fun k q => by
    unfold rCut tLost
    rw [mI_o (by decide), mI_o (by decide), mI_At, if_neg q, hEm_I]
  have h05 : (rCut R p).1 0 5 = R.1 0 5 ||| 1 <<< (nI p &&& 31) := by
    unfold rCut tLost
    rw [mI_o (by decide), mI_o (by decide), mI_At, if_pos rfl]
  have h19 : ∀ k, ¬ k = 2 → ¬ k = 4 → (rCut R p).1 19 k = R.1 19 k := fun k q1 q2 => by
    unfold rCut tLost
    rw [mI_At, if_neg q2, mI_At, if_neg q1, mI_o (by decide), hEm_I]
  have h192 : (rCut R p).1 19 2 = R.1 19 2 + nI (hCt (R.2.1 18) 8 (p * 64)) := by
    unfold rCut tLost
    rw [mI_At, if_neg (by decide), mI_At, if_pos rfl, mI_o (by decide), hEm_I]
  have h194 : (rCut R p).1 19 4 = R.1 19 4 - nI (hCt (R.2.1 18) 8 (p * 64)) := by
    unfold rCut tLost
    rw [mI_At, if_pos rfl, mI_o (by decide), hEm_I]
  have hA : ∀ k, ¬ k = 18 → (rCut R p).2.1 k = R.2.1 k := fun k q => by
    show (hEm 8 (p * 64) R).2.1 k = R.2.1 k
    exact hEm_A q 8 _ R
  have h18 : (rCut R p).2.1 18 = (hEm 8 (p * 64) R).2.1 18 := rfl
  have hopn : ∀ i, i < 7 → (opn (mCut f p (uL (Ln (2 * p))) (uL (Ln (2 * p + 1)))) i ↔ (opn f i ∧ ¬ i = p)) := fun i hi => opn_or (by rw [mCut_v hp7, if_pos rfl]) hp7 hi
  refine ⟨?_, ?_, a4.cg (fun k q r => hA k (by omega)) (fun j q r => hf j (by omega) (by omega) (by omega)) (fun j q r => hf j (by omega) (by omega) (by omega)), a5.cg (Nat.le_refl _) (fun k q r => hA k (by omega)) (fun l k q r _ => hf _ (by omega) (by omega) (by omega)), a6.cg (hI 5 (by decide) (by decide)) (fun k q r => hA k (by omega)) (fun j q => hf j (by omega) (by omega) (by omega)) (fun l q => hf _ (by omega) (by omega) (by omega)), a7.cg (Nat.le_refl _) (fun k q r => hA k (by omega)) (fun j q r => hf j (by omega) (by omega) (by omega)), a8.cg (hI 28 (by decide) (by decide)) (hA 29 (by decide)) (fun i hi => hf _ (by omega) (by omega) (by omega)), a9.cg (hI 26 (by decide) (by decide)) (hA 27 (by decide)) (fun i hi => hf _ (by omega) (by omega) (by omega)), ⟨fun q hq => ?_, fun i b hi hb ho => ?_⟩, fun q hq => ?_, ?_, b4.le (h19 0 (by decide) (by decide)) (fun z => LV_cut (by omega))⟩
  · obtain ⟨⟨o1, o2, o3, o4, o5, o6, o7, o8⟩, t1, t2, t3, t4, t5, t6⟩ := a1
    exact ⟨⟨by rw [h0 0 (by decide)]; exact o1, o2, by rw [h0 1 (by decide)]; exact o3, o4, by rw [h0 3 (by decide)]; exact o5, o6, by rw [h0 6 (by decide)]; exact o7, o8⟩, by rw [h0 2 (by decide)]; exact t1, t2, by rw [h0 4 (by decide), hf _ (by omega) (by omega) (by omega)]; exact t3, by rw [h05, t4, mCut_v hp7, if_pos rfl], by rw [hf _ (by omega) (by omega) (by omega)]; exact t5, t6⟩
  · obtain ⟨⟨m, c1, c2, c3⟩, c4, c5, c6, c7⟩ := a3
    exact ⟨⟨m, c1, by rw [h19 0 (by decide) (by decide)]; exact c2, by rw [hf _ (by omega) (by omega) (by omega)]; exact c3⟩, by rw [h19 1 (by decide) (by decide), hf _ (by omega) (by omega) (by omega)]; exact c4, by rw [h192, c5, mCut_v hp7, if_neg (by decide), if_pos rfl, hct], by rw [h19 3 (by decide) (by decide), hf _ (by omega) (by omega) (by omega)]; exact c6, by rw [h19 5 (by decide) (by decide), hf _ (by omega) (by omega) (by omega)]; exact c7⟩
  · by_cases e1 : q = 2 * p + 1
    · subst e1
      rw [upl_s]
      refine Lane_emp (by rw [mCut_v hp7, if_neg (by omega), if_neg (by omega), if_pos (by omega)]) (fun k hk => ?_)
      have := hEm_z (i := 4 + k) 8 (p * 64) R (by omega)
      rw [h18, show (2 * p + 1) * 32 + k * 8 + 5 = p * 64 + 8 * (4 + k) + 5 by omega]
      exact this
    · rw [upl_o e1]
      by_cases e2 : q = 2 * p
      · subst e2
        rw [upl_s]
        refine Lane_emp (by rw [mCut_v hp7, if_neg (by omega), if_neg (by omega), if_pos (by omega)]) (fun k hk => ?_)
        have := hEm_z (i := k) 8 (p * 64) R (by omega)
        rw [h18, show 2 * p * 32 + k * 8 + 5 = p * 64 + 8 * k + 5 by omega]
        exact this
      · rw [upl_o e2]
        refine (b1.1 q hq).cg hdl (fun i hi => by rw [h18]; exact hEm_o 8 _ R (by omega)) (fun i hi => by rw [mCut_v hp7, if_neg (by omega), if_neg (by omega), if_neg (by omega)])
  · have ho' := fun (z : ¬ i = p) => b1.2 i b hi hb (ho.imp id (fun y => y.imp id (fun x q => x ((hopn i hi).mpr ⟨q, z⟩))))
    by_cases e1 : 2 * i + b = 2 * p + 1
    · rw [e1, upl_s]
    · rw [upl_o e1]
      by_cases e2 : 2 * i + b = 2 * p
      · rw [e2, upl_s]
      · rw [upl_o e2]; exact ho' (by omega)
  · by_cases e1 : q = 2 * p + 1
    · rw [e1, upl_s]; exact Nat.zero_le _
    · rw [upl_o e1]
      by_cases e2 : q = 2 * p
      · rw [e2, upl_s]; exact Nat.zero_le _
      · rw [upl_o e2]; exact b2 q hq
  · rw [h194, b3, hct]
    have u1 := uS_upl (Ln := upl Ln (2 * p) []) (q := 2 * p + 1) (L := []) (by omega)
    have u2 := uS_upl (Ln := Ln) (q := 2 * p) (L := []) (by omega)
    rw [upl_o (show 2 * p + 1 ≠ 2 * p by omega)] at u1
    have z : uL [] = 0 := rfl
    rw [z] at u1 u2
    rw [nI_sub (by omega)]
    congr 1
    omega
theorem S_bits {R R' : aM} {f f' : Nat → Int32} {n dl bal lv t B : Nat} {wl : Nat → List Sg} {al : List (Nat → Int32)} {lg : LgT} {Ln : Nat → List (Option Se)} (h : RI R f n dl bal lv t B wl al lg Ln) (hI : ∀ k, ¬ k = 0 → R'.1 k = R.1 k) (h0 : ∀ k, ¬ k = 4 → ¬ k = 5 → R'.1 0 k = R.1 0 k) (hA : R'.2.1 = R.2.1) (hf : ∀ j, ¬ j = 1550 → ¬ j = 1551 → f' j = f j) (h4 : R'.1 0 4 = f' 1551) (h5 : R'.1 0 5 = f' 1550) (ho : ∀ i, i < 7 → ¬ opn f' i → ¬ opn f i) : RI R' f' n dl bal lv t B wl al lg Ln := by
  obtain ⟨a1, a3, a4, a5, a6, a7, a8, a9, b1, b2, b3⟩ := h
  have hdl : dl ≤ 3 := a1.1.2.2.2.1
  refine ⟨?_, a3.cg (Nat.le_refl _) (fun k _ => by rw [hI 19 (by decide)]) (fun j q r => hf j (by omega) (by omega)), a4.cg (fun k _ _ => by rw [hA]) (fun j q r => hf j (by omega) (by omega)) (fun j q r => hf j (by omega) (by omega)), a5.cg (Nat.le_refl _) (fun k _ _ => by rw [hA]) (fun l k q r _ => hf _ (by omega) (by omega)), a6.cg (hI 5 (by decide)) (fun k _ _ => by rw [hA]) (fun j q => hf j (by omega) (by omega)) (fun l q => hf _ (by omega) (by omega)), a7.cg (Nat.le_refl _) (fun k _ _ => by rw [hA]) (fun j q r => hf j (by omega) (by omega)), a8.cg (hI 28 (by decide)) (by rw [hA]) (fun i hi => hf _ (by omega) (by omega)), a9.cg (hI 26 (by decide)) (by rw [hA]) (fun i hi => hf _ (by omega) (by omega)), ⟨fun q hq => (b1.1 q hq).cg hdl (fun i _ => by rw [hA]) (fun i hi => hf _ (by omega) (by omega)), fun i b hi hb hh => b1.2 i b hi hb (hh.imp id (fun y => y.imp id (ho i hi)))⟩, b2, by rw [hI 19 (by decide)]; exact b3⟩
  obtain ⟨⟨o1, o2, o3, o4, o5, o6, o7, o8⟩, t1, t2, t3, t4, t5, t6⟩ := a1
  exact ⟨⟨by rw [h0 0 (by decide) (by decide)]; exact o1, o2, by rw [h0 1 (by decide) (by decide)]; exact o3, o4, by rw [h0 3 (by decide) (by decide)]; exact o5, o6, by rw [h0 6 (by decide) (by decide)]; exact o7, o8⟩, by rw [h0 2 (by decide) (by decide)]; exact t1, t2, h4, h5, by rw [hf _ (by omega) (by omega)]; exact t5, t6⟩
