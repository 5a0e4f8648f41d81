theorem up_c {f g : Nat → Int32} {a j : Nat} {v : Int32} (h : ¬ j = a → g j = f j) : up g a v j = up f a v j := by
  unfold up
  by_cases e : j = a
  · rw [if_pos e, if_pos e]
  · rw [if_neg e, if_neg e]; exact h e
theorem lAct_cg {R Rm : aM} {l : Nat} (h6 : Rm.2.1 6 = R.2.1 6) (h7 : Rm.2.1 7 = R.2.1 7) (h8 : Rm.2.1 8 = R.2.1 8) {k : Nat} (p : 6 ≤ k) (q : k ≤ 8) : (lActivate Rm l).2.1 k = (lActivate R l).2.1 k := by
  rcases (show k = 6 ∨ k = 7 ∨ k = 8 by omega) with rfl | rfl | rfl <;> funext i <;> simp [lActivate, mA, up2, h6, h7, h8]
theorem cL_act {R : aM} {f : Nat → Int32} {B l : Nat} (h : cL R f B) (hl : l < 48) : cL (lActivate R l) (up (up (up f (968 + 4 * l + 2) (f (968 + 4 * l + 1))) (968 + 4 * l + 1) 0) (968 + 4 * l + 3) (f (968 + 4 * l + 3) + 1)) (B + 1) := by
  obtain ⟨x, y, z, a1, a2, a3, a4, a5, a6, a7, a8, a9⟩ := h l hl
  unfold lActivate
  rw [a4, a5, a8, a9, nI_1]
  exact cL_up8 (cL_up6 (x' := 0) (cL_up7 h (Nat.le_refl B) a1) (Nat.le_refl B) (Nat.zero_le B)) (by omega) (by omega)
theorem tSent_I {R : aM} {s k : Nat} (h : ¬ k = 19) : (tSent R s).1 k = R.1 k := by
  unfold tSent
  rw [mI_o h]
  rfl
theorem tSent_19 {R : aM} {s k : Nat} (h : ¬ k = 4) : (tSent R s).1 19 k = R.1 19 k := by
  unfold tSent
  rw [mI_At, if_neg h]
  rfl
theorem tSent_A {R : aM} {s k : Nat} (h : ¬ k = 21) : (tSent R s).2.1 k = R.2.1 k := by
  unfold tSent
  rw [mI_A, mA_o h]
theorem S_move {R : aM} {P : aP} {n dl bal lv t B s b v : Nat} {wl : Nat → List Sg} {al : List (Nat → Int32)} {lg : LgT} {LL : List (Int32 × Int32)} (h : Co R P n dl bal lv t B wl al lg LL) (hs : s < 8) (hb : b < 2) (hv : v < 3) (hne : ¬ ql wl s b v = []) :
    ∃ l1 x l2 c, wl s = l1 ++ x :: l2 ∧ isL s b v x = true ∧ R.2.1 10 ((s * 2 + b) * 3 + v) = nI c ∧ c < 240 ∧ P.2 s = nI (wl s).length ∧ (wl s).length ≤ 30 ∧ mSpot P.2 s b v 0 0 (wl s).length = nI l1.length ∧ l1.length < (wl s).length ∧
    P.2 (8 + 4 * (30 * s + l1.length)) = x.1 ∧ P.2 (8 + 4 * (30 * s + l1.length) + 1) = nI x.2.1 ∧ P.2 (8 + 4 * (30 * s + l1.length) + 3) = x.2.2.2 ∧ x.2.1 < 8 ∧ 0 < x.1 ∧
    (∀ W', FrW P.1 W' → Co (tSent (lMove R ((s * 2 + b) * 3 + v) s c) s) (W', mLdF P.2 s b v l1.length (wl s).length) n dl bal lv t (B + 1) (upl wl s (l1 ++ l2)) al lg LL) ∧
    (tSent (lMove R ((s * 2 + b) * 3 + v) s c) s).1 30 1 = x.1 ∧ (tSent (lMove R ((s * 2 + b) * 3 + v) s c) s).1 30 2 = nI s ∧ (tSent (lMove R ((s * 2 + b) * 3 + v) s c) s).1 30 3 = nI x.2.1 ∧ (tSent (lMove R ((s * 2 + b) * 3 + v) s c) s).1 30 4 = nI x.2.2.1 ∧ (tSent (lMove R ((s * 2 + b) * 3 + v) s c) s).1 30 5 = x.2.2.2 ∧ (tSent (lMove R ((s * 2 + b) * 3 + v) s c) s).1 30 6 = 0 ∧
    (∀ j, (j = 0 ∨ 7 ≤ j) → (tSent (lMove R ((s * 2 + b) * 3 + v) s c) s).1 30 j = R.1 30 j) ∧ (tSent (lMove R ((s * 2 + b) * 3 + v) s c) s).1 19 4 = R.1 19 4 + 1 ∧ (tSent (lMove R ((s * 2 + b) * 3 + v) s c) s).2.1 18 = R.2.1 18 := by
  obtain ⟨a1, a2, a3, a4, a5, a6, a7, a8, a9, a10⟩ := h
  obtain ⟨w1, w2, w3, w4⟩ := a6.2.1 s hs
  rcases spot_cases hs hb hv w1 with ⟨q1, -⟩ | ⟨l1, x, l2, q1, q2, q3, q4⟩
  · exact absurd q1 hne
  obtain ⟨c, c1, c2, c3, c4, c5, c6, c7⟩ := cQ_pop a6 hs hb hv q1 q2 q3
  have hk : l1.length < (wl s).length := by rw [q1, List.length_append, List.length_cons]; omega
  obtain ⟨⟨s1, s2, s3, s4⟩, s5, s6⟩ := w1.2.2 l1.length x (by rw [q1]; simp)
  have hxm : x ∈ wl s := by rw [q1]; simp
  have hxv : x.2.2.1 = v := (isL_iff.mp q3).2
  have hl : 6 * s + 3 * b + v = (s * 2 + b) * 3 + v := by omega
  have hl48 : (s * 2 + b) * 3 + v < 48 := by omega
  have hl3 : ((s * 2 + b) * 3 + v) % 3 = v := by omega
  obtain ⟨z1, z2, z3, z4, z5, z6, z7⟩ := lMv_30 R ((s * 2 + b) * 3 + v) s c
  have hI : ∀ k, ¬ k = 5 → ¬ k = 30 → ¬ k = 19 → (tSent (lMove R ((s * 2 + b) * 3 + v) s c) s).1 k = R.1 k := fun k p q r => by
    rw [tSent_I r, lMove_I, lMv_I p q]
  have h30 : (tSent (lMove R ((s * 2 + b) * 3 + v) s c) s).1 30 = (lMv R ((s * 2 + b) * 3 + v) s c).1 30 := by rw [tSent_I (by decide), lMove_I]
  have hA : ∀ k, ¬ k = 6 → ¬ k = 7 → ¬ k = 8 → ¬ k = 9 → ¬ k = 10 → ¬ k = 15 → ¬ k = 16 → ¬ k = 21 → (tSent (lMove R ((s * 2 + b) * 3 + v) s c) s).2.1 k = R.2.1 k := fun k p1 p2 p3 p4 p5 p6 p7 p8 => by
    rw [tSent_A p8, lMove_A p1 p2 p3, lMv_A p4 p5 p6 p7]
  have hwl30 := w1.2.1
  have hwk : ∀ f1 : Nat → Int32, f1 (968 + 4 * ((s * 2 + b) * 3 + v)) = 0 → (∀ j, j < 968 → f1 j = mOut P.2 s l1.length (wl s).length j) → mWake f1 s b v ((wl s).length - 1) = if l2.filter (isL s b v) = [] then f1 else up (up (up (up f1 (968 + 4 * ((s * 2 + b) * 3 + v)) 1) (968 + 4 * ((s * 2 + b) * 3 + v) + 2) (f1 (968 + 4 * ((s * 2 + b) * 3 + v) + 1))) (968 + 4 * ((s * 2 + b) * 3 + v) + 1) 0) (968 + 4 * ((s * 2 + b) * 3 + v) + 3) (f1 (968 + 4 * ((s * 2 + b) * 3 + v) + 3) + 1) := by
    intro f1 g1 g2
    have e1 : (wl s).eraseIdx l1.length = l1 ++ l2 := by
      rw [q1, List.eraseIdx_append_of_length_le (Nat.le_refl _), Nat.sub_self]
      rfl
    have e2 := WS_out w1 hs hk
    rw [e1] at e2
    have e3 := e2.cg hs g2
    have e4 : (l1 ++ l2).length = (wl s).length - 1 := by
      rw [q1, List.length_append, List.length_append, List.length_cons]
      omega
    have e5 : (l1 ++ l2).filter (isL s b v) = l2.filter (isL s b v) := by rw [List.filter_append, q2, List.nil_append]
    unfold mWake
    rw [hl]
    simp only [g1]
    rw [if_neg (show ¬ (0 : Int32) = 1 by decide), ← e4]
    rcases spot_cases hs hb hv e3 with ⟨r1, r2⟩ | ⟨m1, y, m2, r1, r2, r3, r4⟩
    · rw [r2, if_pos rfl, if_pos (by rw [← e5]; exact r1)]
    · have hm30 : m1.length < 2 ^ 31 := by
        have := congrArg List.length r1
        rw [List.length_append, List.length_append, List.length_cons] at this
        have e6 := e4
        rw [List.length_append] at e6
        omega
      rw [r4, if_neg (nI_nm1 hm30), if_neg]
      rw [← e5, r1, List.filter_append, List.filter_cons, r3]
      simp
  have hf1 : up (up (mOut P.2 s l1.length (wl s).length) (1168 + s) (mOut P.2 s l1.length (wl s).length (1168 + s) + 1)) (968 + 4 * (6 * s + 3 * b + v)) 0 (968 + 4 * ((s * 2 + b) * 3 + v)) = 0 := by rw [hl]; exact up_s _ _ _
  have hf2 : ∀ j, j < 968 → up (up (mOut P.2 s l1.length (wl s).length) (1168 + s) (mOut P.2 s l1.length (wl s).length (1168 + s) + 1)) (968 + 4 * (6 * s + 3 * b + v)) 0 j = mOut P.2 s l1.length (wl s).length j := fun j hj => by rw [up_o (by omega), up_o (by omega)]
  have hf3 : ∀ j, 968 ≤ j → j < 1160 → ¬ j = 968 + 4 * ((s * 2 + b) * 3 + v) → up (up (mOut P.2 s l1.length (wl s).length) (1168 + s) (mOut P.2 s l1.length (wl s).length (1168 + s) + 1)) (968 + 4 * (6 * s + 3 * b + v)) 0 j = P.2 j := fun j p q r => by rw [up_o (by omega), up_o (by omega), mOut_o hs hwl30 p]
  have hF := hwk _ hf1 hf2
  have hFd : mLdF P.2 s b v l1.length (wl s).length = mWake (up (up (mOut P.2 s l1.length (wl s).length) (1168 + s) (mOut P.2 s l1.length (wl s).length (1168 + s) + 1)) (968 + 4 * (6 * s + 3 * b + v)) 0) s b v ((wl s).length - 1) := rfl
  rw [hF] at hFd
  generalize up (up (mOut P.2 s l1.length (wl s).length) (1168 + s) (mOut P.2 s l1.length (wl s).length (1168 + s) + 1)) (968 + 4 * (6 * s + 3 * b + v)) 0 = f1 at hf1 hf2 hf3 hFd
  refine ⟨l1, x, l2, c, q1, q3, c2, c1, w1.1, hwl30, q4, hk, s1, s2, s4, s5, (w3 x hxm).1, fun W' hW => ?_, ?_, ?_, ?_, ?_, ?_, ?_, ?_, ?_, ?_⟩
  · have hhi : ∀ j, 1160 ≤ j → mLdF P.2 s b v l1.length (wl s).length j = if j = 1168 + s then P.2 j + 1 else P.2 j := fun j hj => mLdF_hi hs hb hv hwl30 hj
    refine ⟨a1.cg (hI 0 (by decide) (by decide) (by decide)) ?_ ?_ ?_, a2.cg hW, a3.cg (by omega) (fun k hk => ?_) (fun j p q => ?_), ?_, ?_, ?_, a7.cg (by omega) (fun k p q => hA k (by omega) (by omega) (by omega) (by omega) (by omega) (by omega) (by omega) (by omega)) (fun j p q => ?_), a8.cg (hI 28 (by decide) (by decide) (by decide)) (hA 29 (by decide) (by decide) (by decide) (by decide) (by decide) (by decide) (by decide) (by decide)) (fun i hi => ?_), a9.cg (hI 26 (by decide) (by decide) (by decide)) (hA 27 (by decide) (by decide) (by decide) (by decide) (by decide) (by decide) (by decide) (by decide)) (fun i hi => ?_), a10.cg hW⟩
    · show mLdF _ _ _ _ _ _ _ = _; rw [hhi _ (by omega), if_neg (by omega)]
    · show mLdF _ _ _ _ _ _ _ = _; rw [hhi _ (by omega), if_neg (by omega)]
    · show mLdF _ _ _ _ _ _ _ = _; rw [hhi _ (by omega), if_neg (by omega)]
    · rw [tSent_19 hk, lMove_I, lMv_I (by decide) (by decide)]
    · show mLdF _ _ _ _ _ _ _ = _; rw [hhi _ (by omega), if_neg (by omega)]
    · have e21 : R.2.1 21 s = P.2 (1168 + s) := (a4.1 s hs).2.1
      refine (cA_up21 (v := R.2.1 21 s + 1) a4 hs).cg (fun k p q => ?_) (fun j p q => ?_) (fun j p q => ?_)
      · by_cases hk21 : k = 21
        · subst hk21
          unfold tSent
          rw [mI_A, mA_up, mA_up, lMove_A (by decide) (by decide) (by decide), lMv_A (by decide) (by decide) (by decide) (by decide)]
        · rw [hA k (by omega) (by omega) (by omega) (by omega) (by omega) (by omega) (by omega) hk21, mA_o hk21]
      · show mLdF _ _ _ _ _ _ _ = _
        rw [hhi _ (by omega)]
        by_cases e : j = 1168 + s
        · rw [if_pos e, e, up_s, e21]
        · rw [if_neg e, up_o e]
      · show mLdF _ _ _ _ _ _ _ = _
        rw [hhi _ (by omega), if_neg (by omega), up_o (by omega)]
    · show cL _ (mLdF _ _ _ _ _ _) _
      rw [hFd]
      by_cases hq : l2.filter (isL s b v) = []
      · rw [if_pos hq]
        refine a5.cg (by omega) (fun k p q => ?_) (fun l' k hl' hk hk0 => hf3 _ (by omega) (by omega) (by omega))
        rw [tSent_A (by omega), lMove_eq, if_pos (c6.mpr hq), lMv_A (by omega) (by omega) (by omega) (by omega)]
      · rw [if_neg hq]
        refine (cL_act a5 hl48).cg (Nat.le_refl _) (fun k p q => ?_) (fun l' k hl' hk hk0 => ?_)
        · rw [tSent_A (by omega), lMove_eq, if_neg (fun q => hq (c6.mp q))]
          exact lAct_cg (lMv_A (by decide) (by decide) (by decide) (by decide)) (lMv_A (by decide) (by decide) (by decide) (by decide)) (lMv_A (by decide) (by decide) (by decide) (by decide)) p q
        · rw [hf3 (968 + 4 * ((s * 2 + b) * 3 + v) + 1) (by omega) (by omega) (by omega), hf3 (968 + 4 * ((s * 2 + b) * 3 + v) + 3) (by omega) (by omega) (by omega)]
          refine up_c (fun _ => up_c (fun _ => up_c (fun _ => ?_)))
          rw [up_o (by omega)]
          exact hf3 _ (by omega) (by omega) (by omega)
    · refine c7 _ _ ?_ ?_ (fun k p q => ?_) (fun j hj => mLdF_lo hj) (fun l' hl' hne' => ?_) ?_
      · rw [tSent_I (by decide), lMove_I]; exact (lMv_5 R _ s c).1
      · rw [tSent_I (by decide), lMove_I]; exact (lMv_5 R _ s c).2
      · rw [tSent_A (by omega), lMove_A (by omega) (by omega) (by omega)]
      · show mLdF _ _ _ _ _ _ _ = _
        rw [hFd]
        split
        · exact hf3 _ (by omega) (by omega) (by omega)
        · rw [up_o (by omega), up_o (by omega), up_o (by omega), up_o (by omega)]
          exact hf3 _ (by omega) (by omega) (by omega)
      · show mLdF _ _ _ _ _ _ _ = _
        rw [hFd]
        split
        · exact hf1
        · rw [up_o (by omega), up_o (by omega), up_o (by omega), up_s]
    · show mLdF _ _ _ _ _ _ _ = _; rw [hhi _ (by omega), if_neg (by omega)]
    · show mLdF _ _ _ _ _ _ _ = _; rw [hhi _ (by omega), if_neg (by omega)]
    · show mLdF _ _ _ _ _ _ _ = _; rw [hhi _ (by omega), if_neg (by omega)]
  · rw [h30, z1, c3]
  · rw [h30, z2]
  · rw [h30, z3, c4]
  · rw [h30, z4, hl3, hxv]
  · rw [h30, z5, c5]
  · rw [h30, z6]
  · intro j hj; rw [h30, z7 j hj]
  · unfold tSent
    rw [mI_At, if_pos rfl, lMove_I, lMv_I (by decide) (by decide)]
  · exact hA 18 (by decide) (by decide) (by decide) (by decide) (by decide) (by decide) (by decide) (by decide)
