/-! THE FIRST OF A LINE GOES INTO THE SLOT -/
theorem mI_o {R : aM} {k j i : Nat} {v : Int32} (h : ¬ i = k) : (mI R k j v).1 i = R.1 i := by
  funext q
  simp [mI, up2, h]
theorem mI_At {R : aM} {k l i : Nat} {v : Int32} : (mI R k l v).1 k i = if i = l then v else R.1 k i := by simp [mI, up2]
def lMv (R : aM) (l s c : Nat) : aM := lRelease (mA (mA (mI (mI (mI (mI (mI (mI R 30 1 (R.2.1 12 c)) 30 2 (nI s)) 30 3 (R.2.1 13 c)) 30 4 (nI (l % 3))) 30 5 (R.2.1 14 c)) 30 6 0) 10 l (R.2.1 15 c)) 9 l (R.2.1 9 l - 1)) c s
theorem lMove_eq (R : aM) (l s c : Nat) : lMove R l s c = if R.2.1 9 l - 1 ≤ 0 then lMv R l s c else lActivate (lMv R l s c) l := rfl
theorem lMv_I {R : aM} {l s c k : Nat} (h : ¬ k = 5) (h2 : ¬ k = 30) : (lMv R l s c).1 k = R.1 k := by
  funext j
  simp [lMv, lRelease, mA, mI, up2, h, h2]
theorem lMv_5 (R : aM) (l s c : Nat) : (lMv R l s c).1 5 11 = nI c ∧ (lMv R l s c).1 5 12 = R.1 5 12 - 1 := by
  constructor <;> simp [lMv, lRelease, mA, mI, up2]
theorem lMv_30 (R : aM) (l s c : Nat) : (lMv R l s c).1 30 1 = R.2.1 12 c ∧ (lMv R l s c).1 30 2 = nI s ∧ (lMv R l s c).1 30 3 = R.2.1 13 c ∧ (lMv R l s c).1 30 4 = nI (l % 3) ∧ (lMv R l s c).1 30 5 = R.2.1 14 c ∧ (lMv R l s c).1 30 6 = 0 ∧ ∀ j, (j = 0 ∨ 7 ≤ j) → (lMv R l s c).1 30 j = R.1 30 j := by
  refine ⟨?_, ?_, ?_, ?_, ?_, ?_, fun j hj => ?_⟩
  · simp [lMv, lRelease, mA, mI, up2]
  · simp [lMv, lRelease, mA, mI, up2]
  · simp [lMv, lRelease, mA, mI, up2]
  · simp [lMv, lRelease, mA, mI, up2]
  · simp [lMv, lRelease, mA, mI, up2]
  · simp [lMv, lRelease, mA, mI, up2]
  · have h1 : ¬ j = 1 := by omega
    have h2 : ¬ j = 2 := by omega
    have h3 : ¬ j = 3 := by omega
    have h4 : ¬ j = 4 := by omega
    have h5 : ¬ j = 5 := by omega
    have h6 : ¬ j = 6 := by omega
    simp [lMv, lRelease, mA, mI, up2, h1, h2, h3, h4, h5, h6]
theorem lMv_A {R : aM} {l s c k : Nat} (h1 : ¬ k = 9) (h2 : ¬ k = 10) (h3 : ¬ k = 15) (h4 : ¬ k = 16) : (lMv R l s c).2.1 k = R.2.1 k := by
  funext j
  simp [lMv, lRelease, mA, mI, up2, h1, h2, h3, h4]
theorem lMv_Q (R : aM) (l s c : Nat) : (lMv R l s c).2.1 9 = up (R.2.1 9) l (R.2.1 9 l - 1) ∧ (lMv R l s c).2.1 10 = up (R.2.1 10) l (R.2.1 15 c) ∧ (lMv R l s c).2.1 15 = up (R.2.1 15) c (R.1 5 11) ∧ (lMv R l s c).2.1 16 = up (R.2.1 16) s (R.2.1 16 s - 1) := by
  refine ⟨?_, ?_, ?_, ?_⟩ <;> funext j <;> simp [lMv, lRelease, mA, mI, up2, up]
theorem lActivate_A {R : aM} {l k : Nat} (h1 : ¬ k = 6) (h2 : ¬ k = 7) (h3 : ¬ k = 8) : (lActivate R l).2.1 k = R.2.1 k := by
  unfold lActivate
  rw [mA_o h3, mA_o h1, mA_o h2]
theorem lMove_I {R : aM} {l s c : Nat} : (lMove R l s c).1 = (lMv R l s c).1 := by
  rw [lMove_eq]
  split <;> rfl
theorem lMove_A {R : aM} {l s c k : Nat} (h1 : ¬ k = 6) (h2 : ¬ k = 7) (h3 : ¬ k = 8) : (lMove R l s c).2.1 k = (lMv R l s c).2.1 k := by
  rw [lMove_eq]
  split
  · rfl
  · exact lActivate_A h1 h2 h3
theorem mWake_o {f : Nat → Int32} {s b v c j : Nat} (h : j < 968 + 4 * (6 * s + 3 * b + v) ∨ 968 + 4 * (6 * s + 3 * b + v) + 4 ≤ j) : mWake f s b v c j = f j := by
  unfold mWake
  split
  · rfl
  · split
    · rfl
    · rw [up_o (by omega), up_o (by omega), up_o (by omega), up_o (by omega)]
theorem mLdF_lo {f : Nat → Int32} {s b v k c j : Nat} (hj : j < 968) : mLdF f s b v k c j = mOut f s k c j := by
  unfold mLdF
  rw [mWake_o (by omega), up_o (by omega), up_o (by omega)]
theorem mLdF_hi {f : Nat → Int32} {s b v k c j : Nat} (hs : s < 8) (hb : b < 2) (hv : v < 3) (hc : c ≤ 30) (hj : 1160 ≤ j) : mLdF f s b v k c j = if j = 1168 + s then f j + 1 else f j := by
  unfold mLdF
  rw [mWake_o (by omega), up_o (by omega)]
  by_cases e : j = 1168 + s
  · rw [if_pos e, e, up_s, mOut_o hs hc (by omega)]
  · rw [if_neg e, up_o e, mOut_o hs hc (by omega)]
theorem cA_up21 {R : aM} {f : Nat → Int32} {s : Nat} {v : Int32} (h : cA R f) (hs : s < 8) : cA (mA R 21 s v) (up f (1168 + s) v) := by
  obtain ⟨a1, a2⟩ := h
  refine ⟨fun s' hs' => ?_, fun k hk => ?_⟩
  · obtain ⟨b1, b2, b3, b4, b5⟩ := a1 s' hs'
    rw [mA_o (show ¬ 20 = 21 by decide), mA_o (show ¬ 23 = 21 by decide), mA_o (show ¬ 24 = 21 by decide), mA_o (show ¬ 25 = 21 by decide), mA_At, up_o (show ¬ 1160 + s' = 1168 + s by omega), up_o (show ¬ 1176 + s' = 1168 + s by omega), up_o (show ¬ 1564 + s' = 1168 + s by omega), up_o (show ¬ 1572 + s' = 1168 + s by omega)]
    refine ⟨b1, ?_, b3, b4, b5⟩
    by_cases e : s' = s
    · rw [if_pos e, e, up_s]
    · rw [if_neg e, up_o (by omega)]; exact b2
  · rw [mA_o (show ¬ 22 = 21 by decide), up_o (by omega)]
    exact a2 k hk
theorem cA_up22 {R : aM} {f : Nat → Int32} {k : Nat} {v : Int32} (h : cA R f) (hk : k < 16) : cA (mA R 22 k v) (up f (1184 + k) v) := by
  obtain ⟨a1, a2⟩ := h
  refine ⟨fun s' hs' => ?_, fun k' hk' => ?_⟩
  · rw [mA_o (show ¬ 20 = 22 by decide), mA_o (show ¬ 21 = 22 by decide), mA_o (show ¬ 23 = 22 by decide), mA_o (show ¬ 24 = 22 by decide), mA_o (show ¬ 25 = 22 by decide), up_o (by omega), up_o (by omega), up_o (by omega), up_o (by omega), up_o (by omega)]
    exact a1 s' hs'
  · rw [mA_At]
    by_cases e : k' = k
    · rw [if_pos e, e, up_s]
    · rw [if_neg e, up_o (by omega)]; exact a2 k' hk'
/-- what waits, as the first of a line has gone -/
theorem cQ_pop {R : aM} {f : Nat → Int32} {n lv s b v : Nat} {wl : Nat → List Sg} {l1 l2 : List Sg} {x : Sg} (hQ : cQ R f n lv wl) (hs : s < 8) (hb : b < 2) (hv : v < 3) (hwl : wl s = l1 ++ x :: l2) (hl1 : l1.filter (isL s b v) = []) (hx : isL s b v x = true) :
    ∃ c, c < 240 ∧ R.2.1 10 ((s * 2 + b) * 3 + v) = nI c ∧ R.2.1 12 c = x.1 ∧ R.2.1 13 c = nI x.2.1 ∧ R.2.1 14 c = x.2.2.2 ∧ (R.2.1 9 ((s * 2 + b) * 3 + v) - 1 ≤ 0 ↔ l2.filter (isL s b v) = []) ∧
    ∀ R' f', R'.1 5 11 = nI c → R'.1 5 12 = R.1 5 12 - 1 → (∀ k, 9 ≤ k → k ≤ 16 → R'.2.1 k = (lMv R ((s * 2 + b) * 3 + v) s c).2.1 k) → (∀ j, j < 968 → f' j = mOut f s l1.length (wl s).length j) → (∀ l, l < 48 → ¬ l = (s * 2 + b) * 3 + v → f' (968 + 4 * l) = f (968 + 4 * l)) → f' (968 + 4 * ((s * 2 + b) * 3 + v)) = (if l2.filter (isL s b v) = [] then 0 else 1) → cQ R' f' n lv (upl wl s (l1 ++ l2)) := by
  have hlen := cQ_len hQ hs hb hv
  obtain ⟨⟨cs, fr, own, a1⟩, a2, a3, a4⟩ := hQ
  have hql : ql wl s b v = x :: l2.filter (isL s b v) := by
    unfold ql
    rw [hwl, List.filter_append, hl1, List.filter_cons, hx]
    rfl
  obtain ⟨⟨q1, q2, q3, q4, q5, q6, q7⟩, hown⟩ := a1.1 s b v hs hb hv
  rw [hql] at q7 hlen
  generalize hl : (s * 2 + b) * 3 + v = l at *
  cases hcs : cs l with
  | nil => rw [hcs] at q7; simp at q7
  | cons c r =>
    rw [hcs] at q1 q4 q6 q7
    simp only [List.map_cons, List.cons.injEq, Prod.mk.injEq] at q7
    obtain ⟨⟨m1, m2, m3⟩, m4⟩ := q7
    have hrl : r.length = (l2.filter (isL s b v)).length := by
      have := congrArg List.length m4
      rw [List.length_map, List.length_map] at this
      exact this
    have e9 : R.2.1 9 l - 1 = nI r.length := by rw [q6, List.length_cons, nI_pred]
    have hr30 : r.length < 30 := by
      have := hlen.2
      rw [List.length_cons] at this
      omega
    obtain ⟨w1, w2, w3, w4⟩ := a2 s hs
    refine ⟨c, q1 c (List.mem_cons_self ..), q4 (by simp), m1, m2, m3, ?_, ?_⟩
    · rw [e9]
      constructor
      · intro q
        rcases Nat.eq_zero_or_pos r.length with z | z
        · rw [z] at hrl; exact List.length_eq_zero_iff.mp hrl.symm
        · exact absurd q (nI_nle z (by omega))
      · intro q
        rw [hrl, q]
        decide
    · intro R' f' g1 g2 g3 g4 g5 g6
      obtain ⟨z9, z10, z15, z16⟩ := lMv_Q R l s c
      refine ⟨⟨upl cs l r, c :: fr, upl own c 48, ?_⟩, fun s' hs' => ?_, ?_, fun s' b' v' hs' hb' hv' => ?_⟩
      · rw [g1]
        refine QC_pop a1 hs hb hv hl.symm hcs hwl hl1 hx ?_ ?_ ?_ ?_ ?_ ?_ ?_
        · rw [g3 9 (by omega) (by omega), z9, e9]
        · rw [g3 10 (by omega) (by omega), z10]
        · rw [g3 15 (by omega) (by omega), z15]
        · rw [g3 11 (by omega) (by omega)]; exact lMv_A (by decide) (by decide) (by decide) (by decide)
        · rw [g3 12 (by omega) (by omega)]; exact lMv_A (by decide) (by decide) (by decide) (by decide)
        · rw [g3 13 (by omega) (by omega)]; exact lMv_A (by decide) (by decide) (by decide) (by decide)
        · rw [g3 14 (by omega) (by omega)]; exact lMv_A (by decide) (by decide) (by decide) (by decide)
      · obtain ⟨v1, v2, v3, v4⟩ := a2 s' hs'
        have hk : l1.length < (wl s).length := by rw [hwl, List.length_append, List.length_cons]; omega
        rw [g3 16 (by omega) (by omega), z16]
        by_cases es : s' = s
        · subst es
          rw [upl_s, up_s]
          have e1 : (wl s').eraseIdx l1.length = l1 ++ l2 := by
            rw [hwl, List.eraseIdx_append_of_length_le (Nat.le_refl _), Nat.sub_self]
            rfl
          have e2 := WS_out w1 hs hk
          rw [e1] at e2
          refine ⟨e2.cg hs g4, ?_, fun y hy => v3 y ?_, fun hn => ?_⟩
          · rw [v2, hwl]
            rw [show (l1 ++ x :: l2).length = (l1 ++ l2).length + 1 by simp; omega, nI_pred]
          · rw [hwl]
            rcases List.mem_append.mp hy with q | q
            · exact List.mem_append.mpr (Or.inl q)
            · exact List.mem_append.mpr (Or.inr (List.mem_cons_of_mem _ q))
          · have := v4 hn
            rw [hwl] at this
            simp at this
        · rw [upl_o es, up_o es]
          exact ⟨(WS_out_o v1 hs hs' es hk w1.2.1).cg hs' g4, v2, v3, v4⟩
      · rw [g2, a3]
        have := tot_upl (wl := wl) (l := l1 ++ l2) hs
        rw [hwl, List.length_append, List.length_cons, List.length_append] at this
        rw [show tot wl = tot (upl wl s (l1 ++ l2)) + 1 by omega, nI_pred]
      · have hl' : 6 * s' + 3 * b' + v' = (s' * 2 + b') * 3 + v' := by omega
        rw [hl']
        by_cases e : (s' * 2 + b') * 3 + v' = l
        · have es : s' = s := by omega
          have eb : b' = b := by omega
          have ev : v' = v := by omega
          subst es; subst eb; subst ev
          rw [e, g6]
          have : ql (upl wl s' (l1 ++ l2)) s' b' v' = l2.filter (isL s' b' v') := by
            unfold ql
            rw [upl_s, List.filter_append, hl1, List.nil_append]
          rw [this]
        · rw [g5 _ (by omega) e]
          have h4 := a4 s' b' v' hs' hb' hv'
          rw [hl'] at h4
          rw [h4]
          have : ql (upl wl s (l1 ++ l2)) s' b' v' = ql wl s' b' v' := by
            unfold ql
            by_cases es : s' = s
            · subst es
              rw [upl_s, hwl, filt_del hx (fun q => e (by rw [q.1, q.2]; exact hl))]
            · rw [upl_o es]
          rw [this]
