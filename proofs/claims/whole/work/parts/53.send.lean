/-! THE SLOT GOES ON -/
theorem rOn_last {R : aM} {n dl lv t b : Nat} (ok : RowOk R n dl lv t) (hn : 2 ≤ n) (hb : b < 2) : rOn R (stn (n - 1) b n) b = tLost R (if R.1 30 1 = 0 ∨ ¬ R.1 30 6 = 0 then 0 else 1) := by
  unfold rOn stn
  simp only [nI_b0 hb]
  refine if_pos (Or.inl ?_)
  by_cases hq : b = 0
  · rw [if_pos hq, if_pos hq]
    right
    rw [ok.1, nI_pr (by omega)]
    exact Int32.le_refl _
  · rw [if_neg hq, if_neg hq]
    left
    rw [Nat.sub_self]
    decide
theorem rOn_p {R : aM} {n dl lv t b i : Nat} (ok : RowOk R n dl lv t) (hb : b < 2) (hin : i < n - 1) : rOn R (stn i b n) b = if (R.1 0 5 >>> (nI (hopO b n i) &&& 31)) &&& 1 = 0 then (if dl = 0 then R else hPut R ((2 * hopO b n i + b) * 32 + t % (dl + 1) * 8)) else tLost R (if R.1 30 1 = 0 ∨ ¬ R.1 30 6 = 0 then 0 else 1) := by
  obtain ⟨o1, o2, o3, o4, o5, o6, o7, o8⟩ := ok
  have hv : (if nI b = 0 then nI (stn i b n) else nI (stn i b n) - 1) = nI (hopO b n i) := by
    rw [← hop_ref2 hin]
    simp only [nI_b0 hb]
    by_cases hq : b = 0
    · rw [if_pos hq, if_pos hq]
    · rw [if_neg hq, if_neg hq, nI_pr]
      unfold stn
      rw [if_neg hq]
      omega
  have hp : hopO b n i < n - 1 := by unfold hopO; split <;> omega
  have hin' : ¬ (nI (hopO b n i) < 0 ∨ R.1 0 0 - 1 ≤ nI (hopO b n i)) := by
    rintro (q | q)
    · exact nI_pos (by omega) q
    · rw [o1, nI_pr (by omega)] at q
      exact nI_ge hp (by omega) q
  have e1 : R.1 0 6 - R.1 0 6 / (R.1 0 1 + 1) * (R.1 0 1 + 1) = nI (t % (dl + 1)) := by
    rw [o7, o3, nI_1]
    exact nI_rem (by omega) (by omega)
  have hm : t % (dl + 1) < dl + 1 := Nat.mod_lt _ (by omega)
  unfold rOn
  simp only [hv]
  rw [nI_clamp (by omega), e1, nI_clamp (by omega), o3, Nat.mul_comm (hopO b n i) 2]
  by_cases c1 : (R.1 0 5 >>> (nI (hopO b n i) &&& 31)) &&& 1 = 0
  · rw [if_neg (fun q => q.elim hin' (fun q => q c1)), if_pos c1]
    by_cases hd : dl = 0
    · have : nI dl ≤ 0 := by rw [hd]; decide
      rw [if_pos this, if_pos hd]
    · have : ¬ nI dl ≤ 0 := nI_nle (by omega) (by omega)
      rw [if_neg this, if_neg hd]
  · rw [if_pos (Or.inr c1), if_neg c1]
theorem sS_last {P : aP} {n dl b : Nat} : sS P (n - 1) (stn (n - 1) b n) b n dl = (mI P.1 0 21 0, if P.1.1 0 21 = 0 ∨ P.1.1 0 22 ≤ 0 ∨ ¬ P.1.1 0 26 = 0 then P.2 else up P.2 1555 (P.2 1555 + 1)) := by
  unfold sS
  simp only
  rw [if_pos (Or.inl trivial)]
theorem sS_p {P : aP} {n dl b i : Nat} (hin : i < n - 1) : sS P i (stn i b n) b n dl = if (P.2 1550 >>> (nI (hopO b n i) &&& 31)) &&& 1 = 0 then (if dl = 0 then P else (P.1, mPut P.1 P.2 (1200 + 25 * (2 * hopO b n i + b)) (P.2 (1200 + 25 * (2 * hopO b n i + b))).toNatClampNeg)) else (mI P.1 0 21 0, if P.1.1 0 21 = 0 ∨ P.1.1 0 22 ≤ 0 ∨ ¬ P.1.1 0 26 = 0 then P.2 else up P.2 1555 (P.2 1555 + 1)) := by
  unfold sS
  simp only [hop_ref2 hin]
  by_cases c1 : (P.2 1550 >>> (nI (hopO b n i) &&& 31)) &&& 1 = 0
  · rw [if_neg (fun q => q.elim (fun q => by omega) (fun q => q c1)), if_pos c1]
  · rw [if_pos (Or.inr c1), if_neg c1]
theorem hPut_I (R : aM) (o : Nat) : (hPut R o).1 = R.1 := rfl
theorem hPut_Ao {R : aM} {o k : Nat} (h : ¬ k = 18) : (hPut R o).2.1 k = R.2.1 k := by
  unfold hPut
  rw [mA_o h, mA_o h, mA_o h, mA_o h, mA_o h, mA_o h, mA_o h, mA_o h]
/-- what is lost -/
theorem S_lost {R : aM} {P : aP} {n dl bal lv t B U : Nat} {wl : Nat → List Sg} {al : List (Nat → Int32)} {lg : LgT} {LL : List (Int32 × Int32)} {e : Se} (hC : Co R P n dl bal lv t B wl al lg LL) (he : hOk R P e) (hU : R.1 19 4 = nI (U + ur e)) :
    Co (tLost R (if R.1 30 1 = 0 ∨ ¬ R.1 30 6 = 0 then 0 else 1)) (mI P.1 0 21 0, if P.1.1 0 21 = 0 ∨ P.1.1 0 22 ≤ 0 ∨ ¬ P.1.1 0 26 = 0 then P.2 else up P.2 1555 (P.2 1555 + 1)) n dl bal lv t B wl al lg LL ∧ (tLost R (if R.1 30 1 = 0 ∨ ¬ R.1 30 6 = 0 then 0 else 1)).1 19 4 = nI U ∧ (∀ j, ¬ j = 1555 → (if P.1.1 0 21 = 0 ∨ P.1.1 0 22 ≤ 0 ∨ ¬ P.1.1 0 26 = 0 then P.2 else up P.2 1555 (P.2 1555 + 1)) j = P.2 j) ∧ (ur e = 0 → (if P.1.1 0 21 = 0 ∨ P.1.1 0 22 ≤ 0 ∨ ¬ P.1.1 0 26 = 0 then P.2 else up P.2 1555 (P.2 1555 + 1)) = P.2) := by
  obtain ⟨⟨c1, c2, c3, c4, c5⟩, ⟨m1, m2, m3, m4, m5⟩, ⟨z1, z2, z3, z4, z5, z6, z7⟩, t1, t2⟩ := he
  obtain ⟨a1, a2, a3, a4, a5, a6, a7, a8, a9, a10⟩ := hC
  obtain ⟨⟨m, b1, b2, b3⟩, b4, b5, b6, b7⟩ := a3
  have e1 : (R.1 30 1 = 0 ∨ ¬ R.1 30 6 = 0) ↔ (zN e = 0 ∨ ¬ zR e = 0) := by
    rw [c1, c2]
    exact ⟨fun q => q.imp id (fun q r => q (by rw [r]; rfl)), fun q => q.imp id (fun q => nI_ne0 (by omega) (by omega))⟩
  have e2 : (P.1.1 0 21 = 0 ∨ P.1.1 0 22 ≤ 0 ∨ ¬ P.1.1 0 26 = 0) ↔ (zN e = 0 ∨ ¬ zR e = 0) := by
    rw [m1, m2, t2]
    constructor
    · rintro (q | q | q)
      · exact absurd q (by decide)
      · exact Or.inl (Classical.byContradiction (fun r => Int32.not_le.mpr (z7 r) q))
      · exact Or.inr (fun r => q (by rw [r]; rfl))
    · rintro (q | q)
      · exact Or.inr (Or.inl (by rw [q]; decide))
      · exact Or.inr (Or.inr (nI_ne0 (by omega) (by omega)))
  have hI : ∀ (v : Int32) k, ¬ k = 19 → (tLost R v).1 k = R.1 k := fun v k p => by unfold tLost; rw [mI_o p, mI_o p]
  have hJ : ∀ (v : Int32) k, ¬ k = 2 → ¬ k = 4 → (tLost R v).1 19 k = R.1 19 k := fun v k p q => by unfold tLost; rw [mI_At, if_neg q, mI_At, if_neg p]
  have h2 : ∀ v : Int32, (tLost R v).1 19 2 = R.1 19 2 + v := fun v => by unfold tLost; rw [mI_At, if_neg (by decide), mI_At, if_pos rfl]
  have h4 : ∀ v : Int32, (tLost R v).1 19 4 = R.1 19 4 - v := fun v => by unfold tLost; rw [mI_At, if_pos rfl]
  have key : ∀ (v : Int32) (g : Nat → Int32), (∀ j, ¬ j = 1555 → g j = P.2 j) → g 1555 = P.2 1555 + v → Co (tLost R v) (mI P.1 0 21 0, g) n dl bal lv t B wl al lg LL := by
    intro v g g1 g2
    refine ⟨a1.cg (hI v 0 (by decide)) (g1 _ (by decide)) (g1 _ (by decide)) (g1 _ (by decide)), a2.cg (FrW_21 _ _), ⟨⟨m, b1, by rw [hJ v 0 (by decide) (by decide)]; exact b2, by rw [← b3]; exact g1 _ (by decide)⟩, ?_, ?_, ?_, ?_⟩, a4.cg (fun _ _ _ => rfl) (fun j p q => g1 j (by omega)) (fun j p q => g1 j (by omega)), a5.cg (Nat.le_refl _) (fun _ _ _ => rfl) (fun l k p q _ => g1 _ (by omega)), a6.cg (hI v 5 (by decide)) (fun _ _ _ => rfl) (fun j p => g1 j (by omega)) (fun l p => g1 _ (by omega)), a7.cg (Nat.le_refl _) (fun _ _ _ => rfl) (fun j p q => g1 j (by omega)), a8.cg (hI v 28 (by decide)) rfl (fun i hi => g1 _ (by omega)), a9.cg (hI v 26 (by decide)) rfl (fun i hi => g1 _ (by omega)), a10.cg (FrW_21 _ _)⟩
    · rw [hJ v 1 (by decide) (by decide), b4]; exact (g1 1554 (by decide)).symm
    · rw [h2, b5]; exact g2.symm
    · rw [hJ v 3 (by decide) (by decide), b6]; exact (g1 1557 (by decide)).symm
    · rw [hJ v 5 (by decide) (by decide), b7]; exact (g1 1556 (by decide)).symm
  by_cases q : zN e = 0 ∨ ¬ zR e = 0
  · have hu : ur e = 0 := by unfold ur; rw [if_pos q]
    rw [if_pos (e1.mpr q), if_pos (e2.mpr q)]
    refine ⟨key 0 P.2 (fun _ _ => rfl) (Int32.add_zero _).symm, ?_, fun _ _ => rfl, fun _ => rfl⟩
    rw [h4, hU, hu, Int32.sub_zero]
    rfl
  · have hu : ur e = 1 := by unfold ur; rw [if_neg q]
    rw [if_neg (fun r => q (e1.mp r)), if_neg (fun r => q (e2.mp r))]
    refine ⟨key 1 _ (fun j hj => up_o hj) (up_s _ _ _), ?_, fun j hj => up_o hj, fun q => absurd (hu.symm.trans q) (by decide)⟩
    rw [h4, hU, hu, nI_pred]
def onR (R : aM) (x : Option Se) (s b : Nat) : aM := match x with
  | none => R
  | some _ => rOn R s b
theorem S_send {R : aM} {P : aP} {n dl bal lv t B i b : Nat} {wl : Nat → List Sg} {al : List (Nat → Int32)} {lg : LgT} {LL : List (Int32 × Int32)} {τ : Nat → Nat} {Ln : Nat → List (Option Se)} {x : Option Se} (hC : Co R P n dl bal lv t B wl al lg LL) (hL : Lns R P.2 dl n τ Ln) (hi : i < n) (hb : b < 2) (hτ : i < n - 1 → τ (2 * hopO b n i + b) = t) (hlen : ∀ q, q < 14 → (Ln q).length ≤ dl)
    (hx : (x = none ∧ 0 < dl ∧ P.1.1 0 21 = 0) ∨ (∃ e, x = some e ∧ hOk R P e)) (hU : R.1 19 4 = nI (uS Ln + uO x)) :
    ∃ Ln' h', Co (onR R x (stn i b n) b) (sS P i (stn i b n) b n dl) n dl bal lv t B wl al lg LL ∧ Lns (onR R x (stn i b n) b) (sS P i (stn i b n) b n dl).2 dl n (if i < n - 1 then upl τ (2 * hopO b n i + b) (t + 1) else τ) Ln' ∧
      (∀ q, q < 14 → (Ln' q).length ≤ dl ∨ (i < n - 1 ∧ q = 2 * hopO b n i + b)) ∧
      ((dl = 0 ∧ i < n - 1 ∧ opn P.2 (hopO b n i) ∧ ∃ e, h' = some e ∧ hOk (onR R x (stn i b n) b) (sS P i (stn i b n) b n dl) e) ∨ (¬ (dl = 0 ∧ i < n - 1 ∧ opn P.2 (hopO b n i)) ∧ h' = none)) ∧
      (onR R x (stn i b n) b).1 19 4 = nI (uS Ln' + uO h') ∧ (onR R x (stn i b n) b).1 19 1 = R.1 19 1 ∧ (sS P i (stn i b n) b n dl).1.1 0 32 = P.1.1 0 32 ∧ (sS P i (stn i b n) b n dl).2 1550 = P.2 1550 ∧
      (uO x = 0 → Still P.2 (sS P i (stn i b n) b n dl).2) ∧ ((Ln' = Ln ∧ (h' = x ∨ h' = none)) ∨ (h' = none ∧ ∃ q, q < 14 ∧ Ln' = upl Ln q (Ln q ++ [x]))) := by
  have ok := hC.1.1
  have hdl : dl ≤ 3 := ok.2.2.2.1
  have hn8 : n ≤ 8 := ok.2.1
  have hn2 : 2 ≤ n := hC.1.2.2.2.2.2.2.1
  have hcut : R.1 0 5 = P.2 1550 := hC.1.2.2.2.2.1
  have hI1 : ∀ v, (tLost R v).1 19 1 = R.1 19 1 := fun v => by unfold tLost; rw [mI_At, if_neg (by decide), mI_At, if_neg (by decide)]
  -- nothing goes on
  have gone : ∀ (R' : aM) (P' : aP) (τ' : Nat → Nat), ¬ (dl = 0 ∧ i < n - 1 ∧ opn P.2 (hopO b n i)) → (∀ q, q < 14 → τ' q = τ q ∨ Ln q = []) → P' = (mI P.1 0 21 0, if P.1.1 0 21 = 0 ∨ P.1.1 0 22 ≤ 0 ∨ ¬ P.1.1 0 26 = 0 then P.2 else up P.2 1555 (P.2 1555 + 1)) → R' = onR R x (stn i b n) b → (∀ e, x = some e → R' = tLost R (if R.1 30 1 = 0 ∨ ¬ R.1 30 6 = 0 then 0 else 1)) →
      ∃ Ln' h', Co R' P' n dl bal lv t B wl al lg LL ∧ Lns R' P'.2 dl n τ' Ln' ∧ (∀ q, q < 14 → (Ln' q).length ≤ dl ∨ (i < n - 1 ∧ q = 2 * hopO b n i + b)) ∧ ((dl = 0 ∧ i < n - 1 ∧ opn P.2 (hopO b n i) ∧ ∃ e, h' = some e ∧ hOk R' P' e) ∨ (¬ (dl = 0 ∧ i < n - 1 ∧ opn P.2 (hopO b n i)) ∧ h' = none)) ∧ R'.1 19 4 = nI (uS Ln' + uO h') ∧ R'.1 19 1 = R.1 19 1 ∧ P'.1.1 0 32 = P.1.1 0 32 ∧ P'.2 1550 = P.2 1550 ∧ (uO x = 0 → Still P.2 P'.2) ∧ ((Ln' = Ln ∧ (h' = x ∨ h' = none)) ∨ (h' = none ∧ ∃ q, q < 14 ∧ Ln' = upl Ln q (Ln q ++ [x]))) := by
    intro R' P' τ' g0 g1 g2 g3 g4
    have hτL : Lns R P.2 dl n τ' Ln := by
      refine ⟨fun q hq => ?_, hL.2⟩
      rcases g1 q hq with r | r
      · rw [r]; exact hL.1 q hq
      · have := hL.1 q hq
        rw [r] at this ⊢
        exact this.nil
    subst g2
    rcases hx with ⟨k1, k2, k3⟩ | ⟨e, k1, k2⟩
    · subst k1
      have e0 : R' = R := g3
      subst e0
      rw [if_pos (Or.inl k3)]
      exact ⟨Ln, none, hC.sl (Nat.le_refl _) (fun _ _ => rfl) (fun _ _ => rfl) (fun _ _ => rfl) (FrW_21 _ _), hτL, fun q hq => Or.inl (hlen q hq), Or.inr ⟨g0, rfl⟩, hU, rfl, (FrW_21 _ _).2.2.2, rfl, fun _ _ _ => rfl, Or.inl ⟨rfl, Or.inr rfl⟩⟩
    · have e0 := g4 e k1
      subst k1
      obtain ⟨l1, l2, l3, l4⟩ := S_lost (U := uS Ln) hC k2 hU
      rw [e0]
      exact ⟨Ln, none, l1, hτL.cg hdl rfl (fun j p q => l3 j (by omega)), fun q hq => Or.inl (hlen q hq), Or.inr ⟨g0, rfl⟩, l2, hI1 _, (FrW_21 _ _).2.2.2, l3 _ (by decide), fun q j _ => congrFun (l4 q) j, Or.inl ⟨rfl, Or.inr rfl⟩⟩
  by_cases c0 : i < n - 1
  · have hp : hopO b n i < n - 1 := by unfold hopO; split <;> omega
    have hq14 : 2 * hopO b n i + b < 14 := by omega
    have hτ' := hτ c0
    rw [if_pos c0]
    by_cases c1 : (P.2 1550 >>> (nI (hopO b n i) &&& 31)) &&& 1 = 0
    · have c1' : (R.1 0 5 >>> (nI (hopO b n i) &&& 31)) &&& 1 = 0 := by rw [hcut]; exact c1
      by_cases c2 : dl = 0
      · rcases hx with ⟨-, k2, -⟩ | ⟨e, k1, k2⟩
        · omega
        · subst k1
          have e1 : onR R (some e) (stn i b n) b = R := by
            show rOn R (stn i b n) b = R
            rw [rOn_p ok hb c0, if_pos c1', if_pos c2]
          have e2 : sS P i (stn i b n) b n dl = P := by rw [sS_p c0, if_pos c1, if_pos c2]
          rw [e1, e2]
          refine ⟨Ln, some e, hC, ⟨fun q hq => ?_, hL.2⟩, fun q hq => Or.inl (hlen q hq), Or.inl ⟨c2, c0, c1, e, rfl, k2⟩, hU, rfl, rfl, rfl, fun _ _ _ => rfl, Or.inl ⟨rfl, Or.inl rfl⟩⟩
          have h0 : Ln q = [] := by
            have := hlen q hq
            rw [c2] at this
            exact List.length_eq_zero_iff.mp (by omega)
          have h1 := hL.1 q hq
          rw [h0] at h1 ⊢
          exact h1.nil
      · have e2 : sS P i (stn i b n) b n dl = (P.1, mPut P.1 P.2 (1200 + 25 * (2 * hopO b n i + b)) (Ln (2 * hopO b n i + b)).length) := by
          rw [sS_p c0, if_pos c1, if_neg c2, (hL.1 _ hq14).1, nI_clamp (by have := (hL.1 _ hq14).2.1; omega)]
        have hfo : ∀ j, (j < 1200 ∨ 1550 ≤ j) → mPut P.1 P.2 (1200 + 25 * (2 * hopO b n i + b)) (Ln (2 * hopO b n i + b)).length j = P.2 j := fun j hj => mPut_o (by have := hlen _ hq14; omega)
        have hlane := hL.1 _ hq14
        rw [hτ'] at hlane
        have main : ∀ R' : aM, R' = onR R x (stn i b n) b → R'.1 = R.1 → (∀ k, ¬ k = 18 → R'.2.1 k = R.2.1 k) → (∀ q, q < 14 → ¬ q = 2 * hopO b n i + b → ∀ j, j < 32 → R'.2.1 18 (q * 32 + j) = R.2.1 18 (q * 32 + j)) → Lane (R'.2.1 18) (mPut P.1 P.2 (1200 + 25 * (2 * hopO b n i + b)) (Ln (2 * hopO b n i + b)).length) (2 * hopO b n i + b) dl (t + 1) (Ln (2 * hopO b n i + b) ++ [x]) →
          ∃ Ln' h', Co R' (sS P i (stn i b n) b n dl) n dl bal lv t B wl al lg LL ∧ Lns R' (sS P i (stn i b n) b n dl).2 dl n (upl τ (2 * hopO b n i + b) (t + 1)) Ln' ∧ (∀ q, q < 14 → (Ln' q).length ≤ dl ∨ (i < n - 1 ∧ q = 2 * hopO b n i + b)) ∧ ((dl = 0 ∧ i < n - 1 ∧ opn P.2 (hopO b n i) ∧ ∃ e, h' = some e ∧ hOk R' (sS P i (stn i b n) b n dl) e) ∨ (¬ (dl = 0 ∧ i < n - 1 ∧ opn P.2 (hopO b n i)) ∧ h' = none)) ∧ R'.1 19 4 = nI (uS Ln' + uO h') ∧ R'.1 19 1 = R.1 19 1 ∧ (sS P i (stn i b n) b n dl).1.1 0 32 = P.1.1 0 32 ∧ (sS P i (stn i b n) b n dl).2 1550 = P.2 1550 ∧ (uO x = 0 → Still P.2 (sS P i (stn i b n) b n dl).2) ∧ ((Ln' = Ln ∧ (h' = x ∨ h' = none)) ∨ (h' = none ∧ ∃ q, q < 14 ∧ Ln' = upl Ln q (Ln q ++ [x]))) := by
          intro R' g1 g2 g3 g4 g5
          rw [e2]
          refine ⟨upl Ln (2 * hopO b n i + b) (Ln (2 * hopO b n i + b) ++ [x]), none, hC.sl (Nat.le_refl _) (fun k _ => by rw [g2]) g3 hfo (FrW.rf _), ⟨fun q hq => ?_, fun p b' hp' hb' ho => ?_⟩, fun q hq => ?_, Or.inr ⟨fun q => c2 q.1, rfl⟩, ?_, by rw [g2], rfl, hfo _ (by omega), fun _ j hj => hfo j (by omega), Or.inr ⟨rfl, _, hq14, rfl⟩⟩
          · by_cases hne : q = 2 * hopO b n i + b
            · rw [hne, upl_s, upl_s]; exact g5
            · rw [upl_o hne, upl_o hne]
              exact (hL.1 q hq).cg hdl (g4 q hq hne) (fun j hj => mPut_o (by have := hlen _ hq14; omega))
          · have ho' : n - 1 ≤ p ∨ dl = 0 ∨ ¬ opn P.2 p := by
              unfold opn at ho ⊢
              have h50 := hfo 1550 (by omega)
              rw [← h50]
              exact ho
            have h1 := hL.2 p b' hp' hb' ho'
            by_cases hne : 2 * p + b' = 2 * hopO b n i + b
            · exfalso
              have : p = hopO b n i := by omega
              subst this
              rcases ho' with r | r | r
              · omega
              · exact c2 r
              · exact r c1
            · rw [upl_o hne]; exact h1
          · by_cases hne : q = 2 * hopO b n i + b
            · exact Or.inr ⟨c0, hne⟩
            · rw [upl_o hne]; exact Or.inl (hlen q hq)
          · rw [g2, hU]
            have := uS_upl (Ln := Ln) (L := Ln (2 * hopO b n i + b) ++ [x]) hq14
            rw [uL_app] at this
            show nI _ = nI (_ + 0)
            congr 1
            omega
        refine main (onR R x (stn i b n) b) rfl ?_ ?_ ?_ ?_
        · rcases hx with ⟨k1, -⟩ | ⟨e, k1, -⟩
          · subst k1; rfl
          · subst k1
            show (rOn R (stn i b n) b).1 = R.1
            rw [rOn_p ok hb c0, if_pos c1', if_neg c2]
            rfl
        · intro k hk
          rcases hx with ⟨k1, -⟩ | ⟨e, k1, -⟩
          · subst k1; rfl
          · subst k1
            show (rOn R (stn i b n) b).2.1 k = R.2.1 k
            rw [rOn_p ok hb c0, if_pos c1', if_neg c2]
            exact hPut_Ao hk
        · intro q hq hne j hj
          rcases hx with ⟨k1, -⟩ | ⟨e, k1, -⟩
          · subst k1; rfl
          · subst k1
            have hm : t % (dl + 1) < dl + 1 := Nat.mod_lt _ (by omega)
            show (rOn R (stn i b n) b).2.1 18 _ = R.2.1 18 _
            rw [rOn_p ok hb c0, if_pos c1', if_neg c2, hPut_A, hUp_o (by omega)]
        · refine Lane_put hlane hdl (hlen _ hq14) hq14 ?_
          rcases hx with ⟨k1, -, k3⟩ | ⟨e, k1, k2, k3, k4, k5, k6⟩
          · right
            subst k1
            exact ⟨rfl, k3, rfl⟩
          · left
            refine ⟨e, k1, k4, k2, k3, by rw [k6]; decide, ?_⟩
            subst k1
            show (rOn R (stn i b n) b).2.1 18 = _
            rw [rOn_p ok hb c0, if_pos c1', if_neg c2]
    · have c1' : ¬ (R.1 0 5 >>> (nI (hopO b n i) &&& 31)) &&& 1 = 0 := by rw [hcut]; exact c1
      refine gone _ _ _ (fun q => c1 q.2.2) (fun q hq => ?_) (by rw [sS_p c0, if_neg c1]) rfl (fun e he => ?_)
      · by_cases hne : q = 2 * hopO b n i + b
        · right
          rw [hne]
          exact hL.2 _ _ (by omega) hb (Or.inr (Or.inr c1))
        · exact Or.inl (upl_o hne)
      · subst he
        show rOn R (stn i b n) b = _
        rw [rOn_p ok hb c0, if_neg c1']
  · rw [if_neg c0]
    have hin : i = n - 1 := by omega
    refine gone _ _ _ (fun q => c0 q.2.1) (fun q hq => Or.inl rfl) (by rw [hin]; exact sS_last) rfl (fun e he => ?_)
    subst he
    show rOn R (stn i b n) b = _
    rw [hin]
    exact rOn_last ok hn2 hb
