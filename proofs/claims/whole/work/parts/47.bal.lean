/-! FILLED, OR AN EMPTY ONE PASSES -/
theorem rBal_A {R : aM} {s b n k : Nat} (h : ¬ (k = 6 ∨ k = 7 ∨ k = 8 ∨ k = 22)) (h3 : n ≤ 3) : (rBal R s b n).2.1 k = R.2.1 k := by
  have key : ∀ (m l : Nat) (R : aM), (lRaiseF l m R).2.1 k = R.2.1 k := by
    intro m
    induction m with
    | zero => intro l R; rfl
    | succ m ih =>
      intro l R
      show (lRaiseF (l + 1) m (lRaise R l)).2.1 k = _
      rw [ih]
      unfold lRaise
      split <;> exact mA_o (by omega)
  unfold rBal
  split
  · rfl
  · split
    · exact mA_o (by omega)
    · rw [key, mA_o (by omega), mA_o (by omega)]
theorem S_bal {R : aM} {P : aP} {n dl bal lv t B s b : Nat} {wl : Nat → List Sg} {al : List (Nat → Int32)} {lg : LgT} {LL : List (Int32 × Int32)} (h : Co R P n dl bal lv t B wl al lg LL) (hs : s < 8) (hb : b < 2) (hB : B + 3 < 2 ^ 31) :
    Co (rBal R s b lv) (P.1, mSnF P.2 s b lv (nI bal)) n dl bal lv t (B + 3) wl al lg LL ∧ (∀ j, 1200 ≤ j → mSnF P.2 s b lv (nI bal) j = P.2 j) := by
  obtain ⟨a1, a2, a3, a4, a5, a6, a7, a8, a9, a10⟩ := h
  have hlv3 : lv ≤ 3 := a1.1.2.2.2.2.2.1
  have e1 : R.1 0 2 = nI bal := a1.2.1
  have e2 : R.2.1 22 (s * 2 + b) = P.2 (1184 + 2 * s + b) := by
    rw [a4.2 _ (by omega), show 1184 + 2 * s + b = 1184 + (s * 2 + b) by omega]
  have e3 : 1184 + 2 * s + b = 1184 + (s * 2 + b) := by omega
  rw [e3] at e2
  have key : ∀ (R1 : aM) (f1 : Nat → Int32), R1.1 = R.1 → (∀ k, ¬ k = 22 → R1.2.1 k = R.2.1 k) → cA R1 f1 → (∀ j, ¬ j = 1184 + (s * 2 + b) → f1 j = P.2 j) → Co R1 (P.1, f1) n dl bal lv t (B + 3) wl al lg LL := by
    intro R1 f1 g1 g2 g3 g4
    exact ⟨a1.cg (by rw [g1]) (g4 _ (by omega)) (g4 _ (by omega)) (g4 _ (by omega)), a2, a3.cg (by omega) (fun k _ => by rw [g1]) (fun j p q => g4 j (by omega)), g3, a5.cg (by omega) (fun k p q => g2 k (by omega)) (fun l k _ _ _ => g4 _ (by omega)), a6.cg (by rw [g1]) (fun k p q => g2 k (by omega)) (fun j hj => g4 j (by omega)) (fun l hl => g4 _ (by omega)), a7.cg (by omega) (fun k p q => g2 k (by omega)) (fun j p q => g4 j (by omega)), a8.cg (by rw [g1]) (g2 29 (by decide)) (fun i hi => g4 _ (by omega)), a9.cg (by rw [g1]) (g2 27 (by decide)) (fun i hi => g4 _ (by omega)), a10⟩
  unfold rBal mSnF
  rw [e1, e3, e2]
  by_cases c1 : nI bal = 0
  · rw [if_pos c1, if_pos c1]
    exact ⟨key R P.2 rfl (fun _ _ => rfl) a4 (fun _ _ => rfl), fun _ _ => rfl⟩
  · rw [if_neg c1, if_neg c1]
    by_cases c2 : nI bal ≤ P.2 (1184 + (s * 2 + b)) + 1
    · rw [if_neg (Int32.not_lt.mpr c2), if_pos c2]
      have hA : cA (mA (mA R 22 (s * 2 + b) (P.2 (1184 + (s * 2 + b)) + 1)) 22 (s * 2 + b) 0) (up P.2 (1184 + (s * 2 + b)) 0) := by
        have := cA_up22 (v := 0) (cA_up22 (v := P.2 (1184 + (s * 2 + b)) + 1) a4 (show s * 2 + b < 16 by omega)) (show s * 2 + b < 16 by omega)
        rw [up_up] at this
        exact this
      have hC := key (mA (mA R 22 (s * 2 + b) (P.2 (1184 + (s * 2 + b)) + 1)) 22 (s * 2 + b) 0) (up P.2 (1184 + (s * 2 + b)) 0) rfl (fun k hk => by rw [mA_o hk, mA_o hk]) hA (fun j hj => up_o hj)
      obtain ⟨b1, b2, b3, b4, b5, b6, b7, b8, b9, b10⟩ := hC
      have hL0 : cL (mA (mA R 22 (s * 2 + b) (P.2 (1184 + (s * 2 + b)) + 1)) 22 (s * 2 + b) 0) (up P.2 (1184 + (s * 2 + b)) 0) B := a5.cg (Nat.le_refl _) (fun k p q => by rw [mA_o (by omega), mA_o (by omega)]) (fun l k _ _ _ => up_o (by omega))
      obtain ⟨hL1, hF1⟩ := cL_raiseF (n := n) (lv := lv) (wl := wl) hs hb lv 0 B _ _ (by omega) hL0 b6 (by omega)
      rw [Nat.add_zero] at hL1 hF1
      refine ⟨Co.frc (P := (P.1, up P.2 (1184 + (s * 2 + b)) 0)) ⟨b1, b2, b3, b4, b5, b6, b7, b8, b9, b10⟩ hF1 (FrW.rf _) (Nat.le_refl _) (hL1.cg (by omega) (fun _ _ _ => rfl) (fun _ _ _ _ _ => rfl)), fun j hj => ?_⟩
      rw [hF1.2.2.1 j (by omega), up_o (by omega)]
    · rw [if_pos (Int32.not_le.mp c2), if_neg c2]
      exact ⟨key (mA R 22 (s * 2 + b) (P.2 (1184 + (s * 2 + b)) + 1)) (up P.2 (1184 + (s * 2 + b)) (P.2 (1184 + (s * 2 + b)) + 1)) rfl (fun k hk => mA_o hk) (cA_up22 a4 (by omega)) (fun j hj => up_o hj), fun j hj => up_o (by omega)⟩
theorem S_sender {R : aM} {f : Nat → Int32} {n lv B s b : Nat} {wl : Nat → List Sg} (hL : cL R f B) (hQ : cQ R f n lv wl) (hs : s < 8) (hb : b < 2) (hB : B < 2 ^ 31) : ∀ k, k ≤ 3 → (lSend R ((s * 2 + b) * 3) true k = -1 ∧ mSender f s b k = -1) ∨ ∃ v, v < k ∧ lSend R ((s * 2 + b) * 3) true k = nI ((s * 2 + b) * 3 + v) ∧ mSender f s b k = nI v ∧ ¬ ql wl s b v = []
  | 0, hk => Or.inl ⟨rfl, rfl⟩
  | k + 1, hk => by
    have ih := S_sender hL hQ hs hb hB k (by omega)
    have ih' : (lSend R ((s * 2 + b) * 3) true k = -1 ∧ mSender f s b k = -1) ∨ ∃ v, v < k + 1 ∧ lSend R ((s * 2 + b) * 3) true k = nI ((s * 2 + b) * 3 + v) ∧ mSender f s b k = nI v ∧ ¬ ql wl s b v = [] := by
      rcases ih with q | ⟨v, q1, q2⟩
      · exact Or.inl q
      · exact Or.inr ⟨v, by omega, q2⟩
    obtain ⟨q1, q2⟩ := cQ_act hQ hs hb (show k < 3 by omega)
    obtain ⟨x, y, z, a1, a2, a3, a4, a5, a6, a7, a8, a9⟩ := hL ((s * 2 + b) * 3 + k) (by omega)
    have hl : 6 * s + 3 * b + k = (s * 2 + b) * 3 + k := by omega
    rw [hl] at q2
    simp only [lSend, mSender]
    rw [hl, a6, a7]
    by_cases c1 : ql wl s b k = []
    · rw [if_pos (q1.mpr c1), if_neg (fun q => q2.mp q c1)]
      exact ih'
    · rw [if_neg (fun q => c1 (q1.mp q)), if_pos (q2.mpr c1)]
      by_cases c2 : nI y = 0
      · rw [if_neg (fun q => q.2 c2), if_pos c2]
        exact Or.inr ⟨k, by omega, rfl, rfl, c1⟩
      · rw [if_pos ⟨trivial, c2⟩, if_neg c2]
        exact ih'
theorem S_top {R : aM} {f : Nat → Int32} {n lv s b : Nat} {wl : Nat → List Sg} (hQ : cQ R f n lv wl) (hs : s < 8) (hb : b < 2) : ∀ k, k ≤ 3 → (lSend R ((s * 2 + b) * 3) false k = -1 ∧ mTop f s b (wl s).length k = -1) ∨ ∃ v, v < k ∧ lSend R ((s * 2 + b) * 3) false k = nI ((s * 2 + b) * 3 + v) ∧ mTop f s b (wl s).length k = nI v ∧ ¬ ql wl s b v = []
  | 0, hk => Or.inl ⟨rfl, rfl⟩
  | k + 1, hk => by
    have ih := S_top hQ hs hb k (by omega)
    obtain ⟨q1, q2⟩ := cQ_act hQ hs hb (show k < 3 by omega)
    obtain ⟨w1, -⟩ := hQ.2.1 s hs
    simp only [lSend, mTop]
    rw [if_neg (show ¬ (false = true ∧ ¬ R.2.1 7 ((s * 2 + b) * 3 + k) = 0) from fun q => by cases q.1)]
    rcases spot_cases hs hb (show k < 3 by omega) w1 with ⟨r1, r2⟩ | ⟨l1, x, l2, r1, r2, r3, r4⟩
    · have c1 : ql wl s b k = [] := r1
      rw [if_pos (q1.mpr c1), if_pos r2]
      rcases ih with q | ⟨v, p1, p2⟩
      · exact Or.inl q
      · exact Or.inr ⟨v, by omega, p2⟩
    · have c1 : ¬ ql wl s b k = [] := by
        unfold ql
        rw [r1, List.filter_append, List.filter_cons, r3]
        simp
      have hl1 : l1.length < 2 ^ 31 := by
        have := w1.2.1
        rw [r1, List.length_append] at this
        omega
      rw [if_neg (fun q => c1 (q1.mp q)), r4, if_neg (nI_nm1 hl1)]
      exact Or.inr ⟨k, by omega, rfl, rfl, c1⟩
/-- a segment not read -/
def ur (e : Se) : Nat := if zN e = 0 ∨ ¬ zR e = 0 then 0 else 1
def rFl (R : aM) (s b lv : Nat) : aM :=
  let R3 := if R.1 30 1 = 0 then rFill R s b lv else R
  if R3.1 30 8 = nI s then mI R3 30 8 (-1) else R3
theorem wI_s {o s : Nat} (ho : o ≤ 8) (hs : s < 8) : (wI o = nI s ↔ o = s + 1) ∧ (wI o = -1 ↔ o = 0) := by
  unfold wI
  by_cases h : o = 0
  · rw [if_pos h]
    exact ⟨⟨fun q => absurd q.symm (nI_nm1 (by omega)), fun q => by omega⟩, ⟨fun _ => h, fun _ => rfl⟩⟩
  · rw [if_neg h]
    exact ⟨⟨fun q => by have := (nI_eq (by omega) (by omega)).mp q; omega, fun q => by rw [q]; rfl⟩, ⟨fun q => absurd q (nI_nm1 (by omega)), fun q => absurd q h⟩⟩
