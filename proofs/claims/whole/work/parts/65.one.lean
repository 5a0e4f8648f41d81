theorem ex_last {α : Type} : ∀ (l : List α), l ≠ [] → ∃ r p, l = r ++ [p]
  | [], h => absurd rfl h
  | [x], _ => ⟨[], x, rfl⟩
  | x :: y :: r, _ => by
    obtain ⟨r', p, h⟩ := ex_last (y :: r) (by simp)
    exact ⟨x :: r', p, by rw [h]; rfl⟩
def oneX (R : aM) (l s : Nat) (g : Int32) (c : Nat) : aM := mI (mA (mA (mA (mA (mA (mA (mA (mI (mI R 19 0 (R.1 19 0 + 1)) 5 11 (R.2.1 15 c)) 12 c (R.1 19 0 + 1)) 13 c g) 14 c (R.1 0 6)) 10 l (nI c)) 11 l (nI c)) 9 l (R.2.1 9 l + 1)) 16 s (R.2.1 16 s + 1)) 5 12 (R.1 5 12 + 1)
def oneY (R : aM) (l s : Nat) (g : Int32) (c p : Nat) : aM := mI (mA (mA (mA (mA (mA (mA (mA (mI (mI R 19 0 (R.1 19 0 + 1)) 5 11 (R.2.1 15 c)) 12 c (R.1 19 0 + 1)) 13 c g) 14 c (R.1 0 6)) 15 p (nI c)) 11 l (nI c)) 9 l (R.2.1 9 l + 1)) 16 s (R.2.1 16 s + 1)) 5 12 (R.1 5 12 + 1)
theorem rOne_e {R : aM} {l s c : Nat} {g : Int32} (hc : R.1 5 11 = nI c) (hc2 : c < 240) (he : R.2.1 9 l = nI 0) : rOne R l s g = lActivate (oneX R l s g c) l := by
  unfold rOne lPut oneX
  rw [hc, nI_clamp (by omega)]
  have h1 : R.2.1 9 l ≤ 0 := by rw [he]; decide
  have h2 : R.2.1 9 l + 1 = 1 := by rw [he]; decide
  simp only [mI_A, eq_true h1, eq_true h2, if_true]
  rw [mI_o (show ¬ 5 = 19 by decide)]
theorem rOne_n {R : aM} {l s c p k : Nat} {g : Int32} (hc : R.1 5 11 = nI c) (hc2 : c < 240) (he : R.2.1 9 l = nI (k + 1)) (hk : k < 30) (hp : R.2.1 11 l = nI p) (hp2 : p < 240) : rOne R l s g = oneY R l s g c p := by
  unfold rOne lPut oneY
  rw [hc, nI_clamp (by omega)]
  have h1 : ¬ R.2.1 9 l ≤ 0 := by rw [he]; exact nI_nle (by omega) (by omega)
  have h2 : ¬ R.2.1 9 l + 1 = 1 := by
    rw [he, nI_1]
    exact fun q => by have := (nI_eq (b := 1) (by omega) (by omega)).mp q; omega
  simp only [mI_A, if_neg h1, if_neg h2, hp, nI_clamp (show p < 2 ^ 31 by omega)]
  rw [mI_o (show ¬ 5 = 19 by decide)]
theorem mOne_lo {f : Nat → Int32} {s b v c j : Nat} {g : Int32} (hj : j < 968) : mOne f s b v c g j = up (up (up (up (up (up f 1553 (f 1553 + 1)) (8 + 4 * (30 * s + c)) (f 1553 + 1)) (8 + 4 * (30 * s + c) + 1) g) (8 + 4 * (30 * s + c) + 2) (nI v)) (8 + 4 * (30 * s + c) + 3) (f 1552)) s (nI (c + 1)) j := by
  unfold mOne
  rw [mWake_o (by omega)]
theorem mOne_hi {f : Nat → Int32} {s b v c j : Nat} {g : Int32} (hs : s < 8) (hb : b < 2) (hv : v < 3) (hc : c < 30) (hj : 1160 ≤ j) : mOne f s b v c g j = if j = 1553 then f 1553 + 1 else f j := by
  unfold mOne
  rw [mWake_o (by omega), up_o (by omega), up_o (by omega), up_o (by omega), up_o (by omega), up_o (by omega)]
  by_cases e : j = 1553
  · rw [if_pos e, e, up_s]
  · rw [if_neg e, up_o e]
theorem tot_lt {R : aM} {f : Nat → Int32} {n lv s : Nat} {wl : Nat → List Sg} (h : cQ R f n lv wl) (hs : s < 8) (hl : (wl s).length < 30) : tot wl < 240 := by
  have q := fun s' (hs' : s' < 8) => (h.2.1 s' hs').1.2.1
  have h0 := q 0 (by omega)
  have h1 := q 1 (by omega)
  have h2 := q 2 (by omega)
  have h3 := q 3 (by omega)
  have h4 := q 4 (by omega)
  have h5 := q 5 (by omega)
  have h6 := q 6 (by omega)
  have h7 := q 7 (by omega)
  unfold tot
  rcases (show s = 0 ∨ s = 1 ∨ s = 2 ∨ s = 3 ∨ s = 4 ∨ s = 5 ∨ s = 6 ∨ s = 7 by omega) with rfl | rfl | rfl | rfl | rfl | rfl | rfl | rfl <;> omega
theorem S_one {R : aM} {P : aP} {n dl bal lv t B s g v : Nat} {wl : Nat → List Sg} {al : List (Nat → Int32)} {lg : LgT} {LL : List (Int32 × Int32)} (h : Co R P n dl bal lv t B wl al lg LL) (hs : s < n) (hg : g < 8) (hv : v < lv) (hlen : (wl s).length < 30) (hB : B + 1 < 2 ^ 31) :
    ∃ m, R.1 19 0 = nI m ∧ m ≤ B ∧ (∃ c, c < 240 ∧ R.1 5 11 = nI c) ∧ (¬ R.2.1 9 ((s * 2 + bs s g) * 3 + v) ≤ 0 → ¬ (R.2.1 11 ((s * 2 + bs s g) * 3 + v) < 0 ∨ 240 ≤ (R.2.1 11 ((s * 2 + bs s g) * 3 + v)).toNatClampNeg)) ∧
      Co (rOne R ((s * 2 + bs s g) * 3 + v) s (nI g)) (P.1, mOne P.2 s (bs s g) v (wl s).length (nI g)) n dl bal lv t (B + 1) (upl wl s (wl s ++ [(nI (m + 1), g, v, nI t)])) al lg LL ∧ (rOne R ((s * 2 + bs s g) * 3 + v) s (nI g)).1 19 0 = nI (m + 1) ∧ (rOne R ((s * 2 + bs s g) * 3 + v) s (nI g)).1 19 4 = R.1 19 4 ∧ (rOne R ((s * 2 + bs s g) * 3 + v) s (nI g)).2.1 18 = R.2.1 18 := by
  obtain ⟨a1, a2, a3, a4, a5, a6, a7, a8, a9, a10⟩ := h
  have hn8 : n ≤ 8 := a1.1.2.1
  have hlv3 : lv ≤ 3 := a1.1.2.2.2.2.2.1
  have hs8 : s < 8 := by omega
  have hb : bs s g < 2 := by unfold bs; split <;> omega
  have htot := tot_lt a6 hs8 hlen
  have hact := cQ_act a6 hs8 hb (show v < 3 by omega)
  have hlen2 := cQ_len a6 hs8 hb (show v < 3 by omega)
  have hl : 6 * s + 3 * bs s g + v = (s * 2 + bs s g) * 3 + v := by omega
  obtain ⟨⟨cs, fr, own, q1⟩, q2, q3, q4⟩ := a6
  obtain ⟨⟨m, m1, m2, m3⟩, b4, b5, b6, b7⟩ := a3
  have hfr := q1.2.2.2
  have hxL : isL s (bs s g) v (nI (m + 1), g, v, nI t) = true := isL_iff.mpr ⟨rfl, rfl⟩
  have htime : R.1 0 6 = nI t := a1.1.2.2.2.2.2.2.1
  have hft : P.2 1552 = nI t := a1.2.2.2.2.2.1
  cases hfr0 : fr with
  | nil => rw [hfr0, List.length_nil] at hfr; omega
  | cons c fr' =>
    rw [hfr0] at q1
    have hfree : R.1 5 11 = nI c := q1.2.1.2.2.1
    have hc : c < 240 := q1.2.1.1 c (List.mem_cons_self ..)
    obtain ⟨⟨r1, r2, r3, r4, r5, r6, r7⟩, hown⟩ := q1.1 s (bs s g) v hs8 hb (by omega)
    rw [hl] at hact
    have hloq := q4 s (bs s g) v hs8 hb (by omega)
    rw [hl] at hloq
    obtain ⟨w1, w2, w3, w4⟩ := q2 s hs8
    have hv3 : v < 3 := by omega
    have hwake : mOne P.2 s (bs s g) v (wl s).length (nI g) = mWake (up (up (up (up (up (up P.2 1553 (P.2 1553 + 1)) (8 + 4 * (30 * s + (wl s).length)) (P.2 1553 + 1)) (8 + 4 * (30 * s + (wl s).length) + 1) (nI g)) (8 + 4 * (30 * s + (wl s).length) + 2) (nI v)) (8 + 4 * (30 * s + (wl s).length) + 3) (P.2 1552)) s (nI ((wl s).length + 1))) s (bs s g) v ((wl s).length + 1) := rfl
    have hWS : WS (up (up (up (up (up (up P.2 1553 (P.2 1553 + 1)) (8 + 4 * (30 * s + (wl s).length)) (P.2 1553 + 1)) (8 + 4 * (30 * s + (wl s).length) + 1) (nI g)) (8 + 4 * (30 * s + (wl s).length) + 2) (nI v)) (8 + 4 * (30 * s + (wl s).length) + 3) (P.2 1552)) s (nI ((wl s).length + 1))) s (wl s ++ [(nI (m + 1), g, v, nI t)]) := by
      refine WS_push w1 hs8 hlen hg hv3 (up_s _ _ _) ⟨?_, ?_, ?_, ?_⟩ (fun j p q => ?_)
      · rw [up_o (by omega), up_o (by omega), up_o (by omega), up_o (by omega), up_s, m3, nI_1]
      · rw [up_o (by omega), up_o (by omega), up_o (by omega), up_s]
      · rw [up_o (by omega), up_o (by omega), up_s]
      · rw [up_o (by omega), up_s, hft]
      · rw [up_o (by omega), up_o (by omega), up_o (by omega), up_o (by omega), up_o (by omega), up_o (by omega)]
    have hmid : ∀ j, 968 ≤ j → j < 1160 → up (up (up (up (up (up P.2 1553 (P.2 1553 + 1)) (8 + 4 * (30 * s + (wl s).length)) (P.2 1553 + 1)) (8 + 4 * (30 * s + (wl s).length) + 1) (nI g)) (8 + 4 * (30 * s + (wl s).length) + 2) (nI v)) (8 + 4 * (30 * s + (wl s).length) + 3) (P.2 1552)) s (nI ((wl s).length + 1)) j = P.2 j := fun j p q => by
      rw [up_o (by omega), up_o (by omega), up_o (by omega), up_o (by omega), up_o (by omega), up_o (by omega)]
    have hlo : ∀ j, j < 968 → ¬ j = s → ¬ (8 + 120 * s ≤ j ∧ j < 128 + 120 * s) → up (up (up (up (up (up P.2 1553 (P.2 1553 + 1)) (8 + 4 * (30 * s + (wl s).length)) (P.2 1553 + 1)) (8 + 4 * (30 * s + (wl s).length) + 1) (nI g)) (8 + 4 * (30 * s + (wl s).length) + 2) (nI v)) (8 + 4 * (30 * s + (wl s).length) + 3) (P.2 1552)) s (nI ((wl s).length + 1)) j = P.2 j := fun j p q r => by
      rw [up_o (by omega), up_o (by omega), up_o (by omega), up_o (by omega), up_o (by omega), up_o (by omega)]
    generalize (up (up (up (up (up (up P.2 1553 (P.2 1553 + 1)) (8 + 4 * (30 * s + (wl s).length)) (P.2 1553 + 1)) (8 + 4 * (30 * s + (wl s).length) + 1) (nI g)) (8 + 4 * (30 * s + (wl s).length) + 2) (nI v)) (8 + 4 * (30 * s + (wl s).length) + 3) (P.2 1552)) s (nI ((wl s).length + 1))) = f1 at hwake hWS hmid hlo
    have hhi := fun j (hj : 1160 ≤ j) => mOne_hi (f := P.2) (g := nI g) hs8 hb hv3 hlen hj
    have hfl : ∀ j, j < 968 → mOne P.2 s (bs s g) v (wl s).length (nI g) j = f1 j := fun j hj => by rw [hwake, mWake_o (by omega)]
    have hspot : ¬ mSpot f1 s (bs s g) v 0 0 ((wl s).length + 1) = -1 := by
      have e1 : (wl s).length + 1 = (wl s ++ [(nI (m + 1), g, v, nI t)]).length := by rw [List.length_append]; rfl
      rw [e1]
      rcases spot_cases hs8 hb hv3 hWS with ⟨z1, -⟩ | ⟨z1, z2, z3, z4, z5, z6, z7⟩
      · rw [List.filter_append, List.filter_cons, hxL] at z1
        simp at z1
      · have : z1.length < 2 ^ 31 := by
          have := congrArg List.length z4
          rw [List.length_append, List.length_append] at this
          simp at this
          omega
        rw [z7]
        exact nI_nm1 this
    -- what is alike in both cases
    have fin : ∀ (R' : aM), (∀ k, ¬ k = 5 → ¬ k = 19 → R'.1 k = R.1 k) → (∀ j, ¬ j = 0 → R'.1 19 j = R.1 19 j) → R'.1 19 0 = R.1 19 0 + 1 → R'.1 5 11 = R.2.1 15 c → R'.1 5 12 = R.1 5 12 + 1 → (∀ k, (k < 6 ∨ 17 ≤ k) → R'.2.1 k = R.2.1 k) → R'.2.1 16 = up (R.2.1 16) s (R.2.1 16 s + 1) →
        QC R'.2.1 (R.2.1 15 c) (upl wl s (wl s ++ [(nI (m + 1), g, v, nI t)])) (upl cs ((s * 2 + bs s g) * 3 + v) (cs ((s * 2 + bs s g) * 3 + v) ++ [c])) fr' (upl own c ((s * 2 + bs s g) * 3 + v)) → cL R' (mOne P.2 s (bs s g) v (wl s).length (nI g)) (B + 1) → (∀ l, l < 48 → ¬ l = (s * 2 + bs s g) * 3 + v → mOne P.2 s (bs s g) v (wl s).length (nI g) (968 + 4 * l) = P.2 (968 + 4 * l)) → mOne P.2 s (bs s g) v (wl s).length (nI g) (968 + 4 * ((s * 2 + bs s g) * 3 + v)) = 1 →
        Co R' (P.1, mOne P.2 s (bs s g) v (wl s).length (nI g)) n dl bal lv t (B + 1) (upl wl s (wl s ++ [(nI (m + 1), g, v, nI t)])) al lg LL ∧ R'.1 19 0 = nI (m + 1) ∧ R'.1 19 4 = R.1 19 4 ∧ R'.2.1 18 = R.2.1 18 := by
      intro R' g1 g2 g3 g4 g5 g6 g7 g8 g9 g10 g11
      have hh : ∀ j, 1160 ≤ j → ¬ j = 1553 → mOne P.2 s (bs s g) v (wl s).length (nI g) j = P.2 j := fun j p q => by rw [hhi j p, if_neg q]
      refine ⟨⟨a1.cg (g1 0 (by decide) (by decide)) (hh _ (by omega) (by omega)) (hh _ (by omega) (by omega)) (hh _ (by omega) (by omega)), a2, ⟨⟨m + 1, by omega, by rw [g3, m2, nI_1], ?_⟩, ?_, ?_, ?_, ?_⟩, a4.cg (fun k p q => g6 k (by omega)) (fun j p q => hh j (by omega) (by omega)) (fun j p q => hh j (by omega) (by omega)), g9, ⟨⟨_, _, _, by rw [g4]; exact g8⟩, fun s' hs' => ?_, ?_, fun s' b' v' hs' hb' hv' => ?_⟩, a7.cg (by omega) (fun k p q => g6 k (by omega)) (fun j p q => hh j (by omega) (by omega)), a8.cg (g1 28 (by decide) (by decide)) (g6 29 (by omega)) (fun i hi => hh _ (by omega) (by omega)), a9.cg (g1 26 (by decide) (by decide)) (g6 27 (by omega)) (fun i hi => hh _ (by omega) (by omega)), a10⟩, by rw [g3, m2, nI_1], g2 4 (by decide), g6 18 (by omega)⟩
      · show mOne _ _ _ _ _ _ 1553 = _
        rw [hhi _ (by omega), if_pos rfl, m3, nI_1]
      · show _ = mOne _ _ _ _ _ _ 1554
        rw [g2 1 (by decide), hh _ (by omega) (by omega)]; exact b4
      · show _ = mOne _ _ _ _ _ _ 1555
        rw [g2 2 (by decide), hh _ (by omega) (by omega)]; exact b5
      · show _ = mOne _ _ _ _ _ _ 1557
        rw [g2 3 (by decide), hh _ (by omega) (by omega)]; exact b6
      · show _ = mOne _ _ _ _ _ _ 1556
        rw [g2 5 (by decide), hh _ (by omega) (by omega)]; exact b7
      · obtain ⟨v1, v2, v3, v4⟩ := q2 s' hs'
        rw [g7]
        by_cases es : s' = s
        · subst es
          rw [upl_s, up_s, v2, nI_1]
          refine ⟨hWS.cg hs' hfl, by rw [List.length_append]; rfl, fun y hy => ?_, fun q => by omega⟩
          rcases List.mem_append.mp hy with z | z
          · exact v3 y z
          · rw [List.mem_singleton.mp z]
            exact ⟨nI_lt (show 0 < m + 1 by omega) (by omega), hv⟩
        · rw [upl_o es, up_o es]
          exact ⟨WS_oth v1 hs8 hs' es (fun j p q r => (hfl j p).trans (hlo j p q r)), v2, v3, v4⟩
      · rw [g5, q3, nI_1]
        have := tot_upl (wl := wl) (l := wl s ++ [(nI (m + 1), g, v, nI t)]) hs8
        rw [List.length_append, List.length_singleton] at this
        congr 1
        omega
      · have hl' : 6 * s' + 3 * b' + v' = (s' * 2 + b') * 3 + v' := by omega
        rw [hl']
        show mOne _ _ _ _ _ _ _ = _
        by_cases e : (s' * 2 + b') * 3 + v' = (s * 2 + bs s g) * 3 + v
        · have es : s' = s := by omega
          have eb : b' = bs s g := by omega
          have ev : v' = v := by omega
          subst es; subst eb; subst ev
          rw [g11, if_neg]
          unfold ql
          rw [upl_s, List.filter_append, List.filter_cons, hxL]
          simp
        · rw [g10 _ (by omega) e]
          have h4 := q4 s' b' v' hs' hb' hv'
          rw [hl'] at h4
          rw [h4]
          have : ql (upl wl s (wl s ++ [(nI (m + 1), g, v, nI t)])) s' b' v' = ql wl s' b' v' := by
            unfold ql
            by_cases es : s' = s
            · subst es
              have hf : isL s' b' v' (nI (m + 1), g, v, nI t) = false := by
                cases hz : isL s' b' v' (nI (m + 1), g, v, nI t) with
                | false => rfl
                | true =>
                  obtain ⟨z1, z2⟩ := isL_iff.mp hz
                  simp only at z1 z2
                  exact absurd (by rw [← z1, ← z2]) e
              rw [upl_s, List.filter_append, List.filter_cons, hf]
              simp
            · rw [upl_o es]
          rw [this]
    refine ⟨m, m2, m1, ⟨c, hc, hfree⟩, ?_, ?_⟩
    · intro hne
      cases hcs : cs ((s * 2 + bs s g) * 3 + v) with
      | nil =>
        rw [hcs] at r6
        rw [r6] at hne
        exact absurd (show nI 0 ≤ 0 by decide) hne
      | cons y r =>
        obtain ⟨r', p, hrp⟩ : ∃ r' p, cs ((s * 2 + bs s g) * 3 + v) = r' ++ [p] := ex_last _ (by rw [hcs]; simp)
        rw [r5 r' p hrp]
        exact nI_in (r1 p (by rw [hrp]; simp)) (by decide)
    · by_cases hq : ql wl s (bs s g) v = []
      · have hcs : cs ((s * 2 + bs s g) * 3 + v) = [] := by
          have := congrArg List.length r7
          rw [List.length_map, List.length_map, hq] at this
          exact List.length_eq_zero_iff.mp this
        have h90 : R.2.1 9 ((s * 2 + bs s g) * 3 + v) = nI 0 := by rw [r6, hcs]; rfl
        rw [rOne_e hfree hc h90]
        have hf0 : f1 (968 + 4 * ((s * 2 + bs s g) * 3 + v)) = 0 := by rw [hmid _ (by omega) (by omega), hloq, if_pos hq]
        have hwk : mOne P.2 s (bs s g) v (wl s).length (nI g) = up (up (up (up f1 (968 + 4 * ((s * 2 + bs s g) * 3 + v)) 1) (968 + 4 * ((s * 2 + bs s g) * 3 + v) + 2) (f1 (968 + 4 * ((s * 2 + bs s g) * 3 + v) + 1))) (968 + 4 * ((s * 2 + bs s g) * 3 + v) + 1) 0) (968 + 4 * ((s * 2 + bs s g) * 3 + v) + 3) (f1 (968 + 4 * ((s * 2 + bs s g) * 3 + v) + 3) + 1) := by
          rw [hwake]
          unfold mWake
          rw [hl]
          simp only [hf0]
          rw [if_neg (show ¬ (0 : Int32) = 1 by decide), if_neg hspot]
        refine fin _ (fun k p q => ?_) (fun j hj => ?_) ?_ ?_ ?_ (fun k hk => ?_) ?_ ?_ ?_ (fun l p q => ?_) ?_
        · funext j; simp [lActivate, oneX, mA, mI, up2, p, q]
        · simp [lActivate, oneX, mA, mI, up2, hj]
        · simp [lActivate, oneX, mA, mI, up2]
        · simp [lActivate, oneX, mA, mI, up2]
        · simp [lActivate, oneX, mA, mI, up2]
        · have : ¬ k = 6 ∧ ¬ k = 7 ∧ ¬ k = 8 ∧ ¬ k = 9 ∧ ¬ k = 10 ∧ ¬ k = 11 ∧ ¬ k = 12 ∧ ¬ k = 13 ∧ ¬ k = 14 ∧ ¬ k = 16 := by omega
          obtain ⟨n1, n2, n3, n4, n5, n6, n7, n8, n9, n10⟩ := this
          funext j; simp [lActivate, oneX, mA, mI, up2, n1, n2, n3, n4, n5, n6, n7, n8, n9, n10]
        · funext j; simp [lActivate, oneX, mA, mI, up2, up]
        · refine QC_push q1 hs8 hb hv3 rfl hxL ?_ ?_ ?_ ?_ ?_ (Or.inl ⟨hcs, ?_, ?_⟩)
          · rw [hcs, ← nI_1]; show _ = up _ _ (nI 0 + 1); rw [← h90]; funext j; simp [lActivate, oneX, mA, mI, up2, up]
          · funext j; simp [lActivate, oneX, mA, mI, up2, up]
          · funext j; simp [lActivate, oneX, mA, mI, up2, up, m2, nI_1]
          · funext j; simp [lActivate, oneX, mA, mI, up2, up]
          · funext j; simp [lActivate, oneX, mA, mI, up2, up, htime]
          · funext j; simp [lActivate, oneX, mA, mI, up2, up]
          · funext j; simp [lActivate, oneX, mA, mI, up2, up]
        · rw [hwk]
          refine (cL_act a5 (show (s * 2 + bs s g) * 3 + v < 48 by omega)).cg (Nat.le_refl _) (fun k p q => ?_) (fun l' k p q r => ?_)
          · exact lAct_cg (by funext j; simp [oneX, mA, mI, up2]) (by funext j; simp [oneX, mA, mI, up2]) (by funext j; simp [oneX, mA, mI, up2]) p q
          · rw [hmid _ (by omega) (by omega), hmid _ (by omega) (by omega)]
            refine up_c (fun _ => up_c (fun _ => up_c (fun _ => ?_)))
            rw [up_o (by omega)]
            exact hmid _ (by omega) (by omega)
        · rw [hwk, up_o (by omega), up_o (by omega), up_o (by omega), up_o (by omega)]
          exact hmid _ (by omega) (by omega)
        · rw [hwk, up_o (by omega), up_o (by omega), up_o (by omega), up_s]
      · obtain ⟨r', p, hrp⟩ : ∃ r' p, cs ((s * 2 + bs s g) * 3 + v) = r' ++ [p] := by
          have hne : cs ((s * 2 + bs s g) * 3 + v) ≠ [] := fun z => by
            have := congrArg List.length r7
            rw [List.length_map, List.length_map, z] at this
            exact hq (List.length_eq_zero_iff.mp this.symm)
          exact ex_last _ hne
        have h9k : R.2.1 9 ((s * 2 + bs s g) * 3 + v) = nI (r'.length + 1) := by rw [r6, hrp, List.length_append]; rfl
        have hk30 : r'.length < 30 := by
          have e1 := congrArg List.length r7
          rw [List.length_map, List.length_map, hrp, List.length_append, List.length_singleton] at e1
          have := hlen2.2
          omega
        have hp240 : p < 240 := r1 p (by rw [hrp]; simp)
        rw [rOne_n hfree hc h9k hk30 (r5 r' p hrp) hp240]
        have hf0 : f1 (968 + 4 * ((s * 2 + bs s g) * 3 + v)) = 1 := by rw [hmid _ (by omega) (by omega), hloq, if_neg hq]
        have hwk : mOne P.2 s (bs s g) v (wl s).length (nI g) = f1 := by
          rw [hwake]
          unfold mWake
          rw [hl]
          simp only [hf0, if_true]
        refine fin _ (fun k p q => ?_) (fun j hj => ?_) ?_ ?_ ?_ (fun k hk => ?_) ?_ ?_ ?_ (fun l p q => ?_) ?_
        · funext j; simp [oneY, mA, mI, up2, p, q]
        · simp [oneY, mA, mI, up2, hj]
        · simp [oneY, mA, mI, up2]
        · simp [oneY, mA, mI, up2]
        · simp [oneY, mA, mI, up2]
        · have : ¬ k = 9 ∧ ¬ k = 11 ∧ ¬ k = 12 ∧ ¬ k = 13 ∧ ¬ k = 14 ∧ ¬ k = 15 ∧ ¬ k = 16 := by omega
          obtain ⟨n1, n2, n3, n4, n5, n6, n7⟩ := this
          funext j; simp [oneY, mA, mI, up2, n1, n2, n3, n4, n5, n6, n7]
        · funext j; simp [oneY, mA, mI, up2, up]
        · refine QC_push q1 hs8 hb hv3 rfl hxL ?_ ?_ ?_ ?_ ?_ (Or.inr ⟨r', p, hrp, ?_, ?_⟩)
          · rw [← nI_1, ← r6]; funext j; simp [oneY, mA, mI, up2, up]
          · funext j; simp [oneY, mA, mI, up2, up]
          · funext j; simp [oneY, mA, mI, up2, up, m2, nI_1]
          · funext j; simp [oneY, mA, mI, up2, up]
          · funext j; simp [oneY, mA, mI, up2, up, htime]
          · funext j; simp [oneY, mA, mI, up2]
          · funext j; simp [oneY, mA, mI, up2, up]
        · rw [hwk]
          exact a5.cg (by omega) (fun k p q => by rcases (show k = 6 ∨ k = 7 ∨ k = 8 by omega) with rfl | rfl | rfl <;> funext j <;> simp [oneY, mA, mI, up2]) (fun l' k p q r => hmid _ (by omega) (by omega))
        · rw [hwk]; exact hmid _ (by omega) (by omega)
        · rw [hwk]; exact hf0
