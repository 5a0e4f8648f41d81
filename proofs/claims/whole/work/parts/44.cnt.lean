/-! COUNTS OF LINES: one more, one less -/
theorem mCount_eq {f : Nat → Int32} {s b v l : Nat} (hl : 6 * s + 3 * b + v = l) (y : Int32) : mCount f s b v y = if f (968 + 4 * l) = 1 then up f (968 + 4 * l + 2) (if f (968 + 4 * l + 2) + y < 0 then 0 else f (968 + 4 * l + 2) + y) else up f (968 + 4 * l + 1) (if f (968 + 4 * l + 1) + y < 0 then 0 else f (968 + 4 * l + 1) + y) := by
  unfold mCount
  rw [hl]
  by_cases h : f (968 + 4 * l) = 1
  · simp only [if_pos h]
  · simp only [if_neg h]
theorem frc6 (R : aM) (f : Nat → Int32) {l : Nat} (x y : Int32) (hl : l < 48) : FrC R (mA R 6 l x) f (up f (968 + 4 * l + 1) y) := ⟨fun _ _ => rfl, fun k hk => mA_o (by omega), fun j hj => up_o (by omega), fun _ _ => rfl⟩
theorem frc7 (R : aM) (f : Nat → Int32) {l : Nat} (x y : Int32) (hl : l < 48) : FrC R (mA R 7 l x) f (up f (968 + 4 * l + 2) y) := ⟨fun _ _ => rfl, fun k hk => mA_o (by omega), fun j hj => up_o (by omega), fun _ _ => rfl⟩
theorem frc8 (R : aM) (f : Nat → Int32) {l : Nat} (x y : Int32) (hl : l < 48) : FrC R (mA R 8 l x) f (up f (968 + 4 * l + 3) y) := ⟨fun _ _ => rfl, fun k hk => mA_o (by omega), fun j hj => up_o (by omega), fun _ _ => rfl⟩
theorem inc_nn {x B : Nat} (hx : x ≤ B) (hB : B + 1 < 2 ^ 31) : (if nI x + 1 < 0 then (0 : Int32) else nI x + 1) = nI (x + 1) := by
  rw [nI_1, if_neg (nI_pos (by omega))]
theorem dec_nn {x B : Nat} (hx : x ≤ B) (hB : B + 1 < 2 ^ 31) : (if nI x + (-1) < 0 then (0 : Int32) else nI x + (-1)) = nI (x - 1) ∧ mx0 (nI x - 1) = nI (x - 1) := by
  cases x with
  | zero => decide
  | succ k =>
    rw [pk_m1, nI_pred, if_neg (nI_pos (by omega)), show k + 1 - 1 = k by omega]
    refine ⟨rfl, ?_⟩
    unfold mx0
    cases k with
    | zero => decide
    | succ j => rw [if_pos (show (0 : Int32) < nI (j + 1) from nI_lt (show 0 < j + 1 by omega) (by omega))]
theorem cL_raise {R : aM} {f : Nat → Int32} {n lv B s b v : Nat} {wl : Nat → List Sg} (hL : cL R f B) (hQ : cQ R f n lv wl) (hs : s < 8) (hb : b < 2) (hv : v < 3) (hB : B + 1 < 2 ^ 31) : cL (lRaise R ((s * 2 + b) * 3 + v)) (mCount f s b v 1) (B + 1) ∧ FrC R (lRaise R ((s * 2 + b) * 3 + v)) f (mCount f s b v 1) := by
  obtain ⟨q1, q2⟩ := cQ_act hQ hs hb hv
  have hl : 6 * s + 3 * b + v = (s * 2 + b) * 3 + v := by omega
  rw [mCount_eq hl]
  rw [hl] at q2
  generalize hl0 : (s * 2 + b) * 3 + v = l at q1 q2 ⊢
  have hl48 : l < 48 := by omega
  obtain ⟨x, y, z, a1, a2, a3, a4, a5, a6, a7, a8, a9⟩ := hL l hl48
  unfold lRaise
  by_cases hq : ql wl s b v = []
  · rw [if_pos (q1.mpr hq), if_neg (fun q => q2.mp q hq), a4, a5, inc_nn a1 hB, nI_1]
    exact ⟨cL_up6 hL (by omega) (by omega), frc6 R f _ _ hl48⟩
  · rw [if_neg (fun q => hq (q1.mp q)), if_pos (q2.mpr hq), a6, a7, inc_nn a2 hB, nI_1]
    exact ⟨cL_up7 hL (by omega) (by omega), frc7 R f _ _ hl48⟩
theorem cL_ease {R : aM} {f : Nat → Int32} {n lv B s b v : Nat} {wl : Nat → List Sg} (hL : cL R f B) (hQ : cQ R f n lv wl) (hs : s < 8) (hb : b < 2) (hv : v < 3) (hB : B + 1 < 2 ^ 31) : cL (lEase R ((s * 2 + b) * 3 + v)) (mCount f s b v (-1)) B ∧ FrC R (lEase R ((s * 2 + b) * 3 + v)) f (mCount f s b v (-1)) := by
  obtain ⟨q1, q2⟩ := cQ_act hQ hs hb hv
  have hl : 6 * s + 3 * b + v = (s * 2 + b) * 3 + v := by omega
  rw [mCount_eq hl]
  rw [hl] at q2
  generalize hl0 : (s * 2 + b) * 3 + v = l at q1 q2 ⊢
  have hl48 : l < 48 := by omega
  obtain ⟨x, y, z, a1, a2, a3, a4, a5, a6, a7, a8, a9⟩ := hL l hl48
  unfold lEase
  by_cases hq : ql wl s b v = []
  · rw [if_pos (q1.mpr hq), if_neg (fun q => q2.mp q hq), a4, a5, (dec_nn a1 hB).1, (dec_nn a1 hB).2]
    exact ⟨cL_up6 hL (by omega) (by omega), frc6 R f _ _ hl48⟩
  · rw [if_neg (fun q => hq (q1.mp q)), if_pos (q2.mpr hq), a6, a7, (dec_nn a2 hB).1, (dec_nn a2 hB).2]
    exact ⟨cL_up7 hL (by omega) (by omega), frc7 R f _ _ hl48⟩
theorem cL_raiseF {n lv s b : Nat} {wl : Nat → List Sg} (hs : s < 8) (hb : b < 2) : ∀ (k j B : Nat) (R : aM) (f : Nat → Int32), j + k ≤ 3 → cL R f B → cQ R f n lv wl → B + k < 2 ^ 31 → cL (lRaiseF ((s * 2 + b) * 3 + j) k R) (mCounts s b 1 k j f) (B + k) ∧ FrC R (lRaiseF ((s * 2 + b) * 3 + j) k R) f (mCounts s b 1 k j f)
  | 0, j, B, R, f, hj, hL, hQ, hB => ⟨hL, FrC.rf R f⟩
  | k + 1, j, B, R, f, hj, hL, hQ, hB => by
    obtain ⟨h1, h2⟩ := cL_raise hL hQ hs hb (show j < 3 by omega) (by omega)
    obtain ⟨h3, h4⟩ := cL_raiseF hs hb k (j + 1) (B + 1) _ _ (by omega) h1 (h2.q hQ) (by omega)
    rw [show B + 1 + k = B + (k + 1) by omega] at h3
    exact ⟨h3, h2.tr h4⟩
theorem cL_easeF {n lv s b : Nat} {wl : Nat → List Sg} (hs : s < 8) (hb : b < 2) : ∀ (k j B : Nat) (R : aM) (f : Nat → Int32), j + k ≤ 3 → cL R f B → cQ R f n lv wl → B + 1 < 2 ^ 31 → cL (lEaseF ((s * 2 + b) * 3 + j) k R) (mCounts s b (-1) k j f) B ∧ FrC R (lEaseF ((s * 2 + b) * 3 + j) k R) f (mCounts s b (-1) k j f)
  | 0, j, B, R, f, hj, hL, hQ, hB => ⟨hL, FrC.rf R f⟩
  | k + 1, j, B, R, f, hj, hL, hQ, hB => by
    obtain ⟨h1, h2⟩ := cL_ease hL hQ hs hb (show j < 3 by omega) (by omega)
    obtain ⟨h3, h4⟩ := cL_easeF hs hb k (j + 1) B _ _ (by omega) h1 (h2.q hQ) (by omega)
    exact ⟨h3, h2.tr h4⟩
theorem bit_or : ∀ a, a < 8 → ∀ v, v < 3 → (nI a ||| 1 <<< (nI v &&& 31)) = nI (a ||| 2 ^ v) ∧ a ||| 2 ^ v < 8 ∧ (¬ (nI a >>> (nI v &&& 31)) &&& 1 = 0 → a ||| 2 ^ v = a) := by decide +kernel
/-- asks are heard and told, the levels below k still to come -/
theorem S_asks {n lv s b : Nat} {wl : Nat → List Sg} (hs : s < 8) (hb : b < 2) : ∀ (k B a : Nat) (R : aM) (f : Nat → Int32), k ≤ 3 → a < 8 → R.1 30 7 = nI a → cL R f B → cQ R f n lv wl → B + 6 * k < 2 ^ 31 → ∃ a', a' < 8 ∧ (rAsks ((s * 2 + b) * 3) k R).1 30 7 = nI a' ∧ (mHears s b k (nI a) f).1 = nI a' ∧ cL (rAsks ((s * 2 + b) * 3) k R) (mHears s b k (nI a) f).2 (B + 6 * k) ∧ FrC R (rAsks ((s * 2 + b) * 3) k R) f (mHears s b k (nI a) f).2
  | 0, B, a, R, f, hk, ha, hR, hL, hQ, hB => ⟨a, ha, hR, rfl, hL, FrC.rf R f⟩
  | k + 1, B, a, R, f, hk, ha, hR, hL, hQ, hB => by
    have hl : 6 * s + 3 * b + k = (s * 2 + b) * 3 + k := by omega
    have hl48 : (s * 2 + b) * 3 + k < 48 := by omega
    obtain ⟨o1, o2, o3⟩ := bit_or a ha k (by omega)
    obtain ⟨x, y, z, a1, a2, a3, a4, a5, a6, a7, a8, a9⟩ := hL _ hl48
    simp only [rAsks, rAsk, mHears, hR]
    by_cases c1 : (nI a >>> (nI k &&& 31)) &&& 1 = 0
    · simp only [if_pos c1, hl, a8, a9]
      by_cases c2 : z = 0
      · subst c2
        rw [if_pos (show nI 0 ≤ 0 by decide), if_pos (show nI 0 = 0 from rfl)]
        obtain ⟨a', q1, q2, q3, q4, q5⟩ := S_asks hs hb k B a R f (by omega) ha hR hL hQ (by omega)
        exact ⟨a', q1, q2, q3, q4.cg (by omega) (fun _ _ _ => rfl) (fun _ _ _ _ _ => rfl), q5⟩
      · rw [if_neg (nI_nle (by omega) (by omega)), if_neg (nI_ne0 (by omega) (by omega)), o1]
        have e1 : nI z - 1 = nI (z - 1) := by
          rw [show z = z - 1 + 1 by omega, nI_pred]; rfl
        rw [e1]
        have hL1 := cL_up8 (l := (s * 2 + b) * 3 + k) hL (Nat.le_refl B) (show z - 1 ≤ B by omega)
        have hF1 : FrC R (mA (mI R 30 7 (nI (a ||| 2 ^ k))) 8 ((s * 2 + b) * 3 + k) (nI (z - 1))) f (up f (968 + 4 * ((s * 2 + b) * 3 + k) + 3) (nI (z - 1))) := ⟨fun j hj => by funext i; simp [mA, mI, up2, hj], fun j hj => by rw [mA_o (by omega)]; rfl, fun j hj => up_o (by omega), fun j hj => by simp [mA, mI, up2, hj]⟩
        have hL2 : cL (mA (mI R 30 7 (nI (a ||| 2 ^ k))) 8 ((s * 2 + b) * 3 + k) (nI (z - 1))) (up f (968 + 4 * ((s * 2 + b) * 3 + k) + 3) (nI (z - 1))) B := hL1.cg (Nat.le_refl B) (fun _ _ _ => rfl) (fun _ _ _ _ _ => rfl)
        obtain ⟨hL3, hF2⟩ := cL_raiseF (n := n) (lv := lv) (wl := wl) hs hb k 0 B _ _ (by omega) hL2 (hF1.q hQ) (by omega)
        rw [Nat.add_zero] at hL3 hF2
        have hR' : (lRaiseF ((s * 2 + b) * 3) k (mA (mI R 30 7 (nI (a ||| 2 ^ k))) 8 ((s * 2 + b) * 3 + k) (nI (z - 1)))).1 30 7 = nI (a ||| 2 ^ k) := by
          rw [lRaiseF_I]
          simp [mA, mI, up2]
        obtain ⟨a', q1, q2, q3, q4, q5⟩ := S_asks hs hb k (B + k) (a ||| 2 ^ k) _ _ (by omega) o2 hR' hL3 ((hF1.tr hF2).q hQ) (by omega)
        exact ⟨a', q1, q2, q3, q4.cg (by omega) (fun _ _ _ => rfl) (fun _ _ _ _ _ => rfl), (hF1.tr hF2).tr q5⟩
    · simp only [if_neg c1, hl, a4, a5]
      rw [o1, o3 c1, nI_1]
      have hL1 := cL_up6 (l := (s * 2 + b) * 3 + k) hL (show B ≤ B + 1 by omega) (show x + 1 ≤ B + 1 by omega)
      have hF1 := frc6 R f (nI (x + 1)) (nI (x + 1)) hl48
      obtain ⟨hL3, hF2⟩ := cL_raiseF (n := n) (lv := lv) (wl := wl) hs hb k 0 (B + 1) _ _ (by omega) hL1 (hF1.q hQ) (by omega)
      rw [Nat.add_zero] at hL3 hF2
      have hR' : (lRaiseF ((s * 2 + b) * 3) k (mA R 6 ((s * 2 + b) * 3 + k) (nI (x + 1)))).1 30 7 = nI a := by
        rw [lRaiseF_I]
        exact hR
      obtain ⟨a', q1, q2, q3, q4, q5⟩ := S_asks hs hb k (B + 1 + k) a _ _ (by omega) ha hR' hL3 ((hF1.tr hF2).q hQ) (by omega)
      exact ⟨a', q1, q2, q3, q4.cg (by omega) (fun _ _ _ => rfl) (fun _ _ _ _ _ => rfl), (hF1.tr hF2).tr q5⟩
