/-- the log: the class's ring is as a row fL tells, and the reference's own stretch is that of fR -/
abbrev LgT : Type := (Nat → Int32) × List (Nat → Int32) × (Nat → Int32)
def RgT (R : aM) (f : Nat → Int32) (lg : LgT) : Prop := RgL R lg.1 lg.2.1 ∧ ∀ i, i < 181 → f (1741 + i) = lg.2.2 (1741 + i)
theorem RgT.cg {R R' : aM} {f f' : Nat → Int32} {lg : LgT} (h : RgT R f lg) (h1 : R'.1 26 = R.1 26) (h2 : R'.2.1 27 = R.2.1 27) (h3 : ∀ i, i < 1 + 3 * 60 → f' (1741 + i) = f (1741 + i)) : RgT R' f' lg := ⟨h.1.cg h1 h2 (fun _ _ => rfl), fun i hi => (h3 i (by omega)).trans (h.2 i hi)⟩
/-! THE PARTS OF THE RELATION between a row R of the class and a row f of the reference -/
def cT (R : aM) (f : Nat → Int32) (n dl bal lv t : Nat) : Prop := RowOk R n dl lv t ∧ R.1 0 2 = nI bal ∧ bal ≤ 9 ∧ R.1 0 4 = f 1551 ∧ R.1 0 5 = f 1550 ∧ f 1552 = nI t ∧ 2 ≤ n ∧ 1 ≤ lv
theorem cT.cg {R R' : aM} {f f' : Nat → Int32} {n dl bal lv t : Nat} (h : cT R f n dl bal lv t) (h1 : R'.1 0 = R.1 0) (h2 : f' 1550 = f 1550) (h3 : f' 1551 = f 1551) (h4 : f' 1552 = f 1552) : cT R' f' n dl bal lv t := by
  obtain ⟨a1, a2, a3, a4, a5, a6, a7⟩ := h
  exact ⟨a1.of h1, by rw [h1]; exact a2, a3, by rw [h1, h3]; exact a4, by rw [h1, h2]; exact a5, by rw [h4]; exact a6, a7⟩
/-- the rules of the reference -/
def cW (W : aM) (n dl bal lv : Nat) : Prop := W.1 0 12 = nI n ∧ W.2.1 3 1 = nI dl ∧ W.2.1 3 2 = nI bal ∧ W.2.1 3 3 = nI lv
/-- what landed -/
def cLd (W : aM) (LL : List (Int32 × Int32)) : Prop := W.1 0 31 = nI LL.length ∧ ∀ j x, LL[j]? = some x → W.2.1 12 j = x.1 ∧ W.2.1 13 j = x.2
def FrW (W W' : aM) : Prop := W'.2.1 = W.2.1 ∧ W'.1 0 12 = W.1 0 12 ∧ W'.1 0 31 = W.1 0 31 ∧ W'.1 0 32 = W.1 0 32
theorem FrW.rf (W : aM) : FrW W W := ⟨rfl, rfl, rfl, rfl⟩
theorem FrW.tr {A B C : aM} (h1 : FrW A B) (h2 : FrW B C) : FrW A C := ⟨h2.1.trans h1.1, h2.2.1.trans h1.2.1, h2.2.2.1.trans h1.2.2.1, h2.2.2.2.trans h1.2.2.2⟩
theorem cW.cg {W W' : aM} {n dl bal lv : Nat} (h : cW W n dl bal lv) (h1 : FrW W W') : cW W' n dl bal lv := by
  unfold cW at h ⊢
  rw [h1.1, h1.2.1]
  exact h
theorem cLd.cg {W W' : aM} {LL : List (Int32 × Int32)} (h : cLd W LL) (h1 : FrW W W') : cLd W' LL := by
  unfold cLd at h ⊢
  rw [h1.1, h1.2.2.1]
  exact h
def cK (R : aM) (f : Nat → Int32) (B : Nat) : Prop := (∃ m, m ≤ B ∧ R.1 19 0 = nI m ∧ f 1553 = nI m) ∧ R.1 19 1 = f 1554 ∧ R.1 19 2 = f 1555 ∧ R.1 19 3 = f 1557 ∧ R.1 19 5 = f 1556
theorem cK.cg {R R' : aM} {f f' : Nat → Int32} {B B' : Nat} (h : cK R f B) (hB : B ≤ B') (h1 : ∀ k, ¬ k = 4 → R'.1 19 k = R.1 19 k) (h2 : ∀ j, 1553 ≤ j → j < 1558 → f' j = f j) : cK R' f' B' := by
  obtain ⟨⟨m, a1, a2, a3⟩, a4, a5, a6, a7⟩ := h
  refine ⟨⟨m, by omega, ?_, ?_⟩, ?_, ?_, ?_, ?_⟩
  · rw [h1 0 (by decide)]; exact a2
  · rw [h2 1553 (by omega) (by omega)]; exact a3
  · rw [h1 1 (by decide), h2 1554 (by omega) (by omega)]; exact a4
  · rw [h1 2 (by decide), h2 1555 (by omega) (by omega)]; exact a5
  · rw [h1 3 (by decide), h2 1557 (by omega) (by omega)]; exact a6
  · rw [h1 5 (by decide), h2 1556 (by omega) (by omega)]; exact a7
def cA (R : aM) (f : Nat → Int32) : Prop := (∀ s, s < 8 → R.2.1 20 s = f (1160 + s) ∧ R.2.1 21 s = f (1168 + s) ∧ R.2.1 23 s = f (1176 + s) ∧ R.2.1 24 s = f (1564 + s) ∧ R.2.1 25 s = f (1572 + s)) ∧ ∀ k, k < 16 → R.2.1 22 k = f (1184 + k)
theorem cA.cg {R R' : aM} {f f' : Nat → Int32} (h : cA R f) (h1 : ∀ k, 20 ≤ k → k ≤ 25 → R'.2.1 k = R.2.1 k) (h2 : ∀ j, 1160 ≤ j → j < 1200 → f' j = f j) (h3 : ∀ j, 1564 ≤ j → j < 1580 → f' j = f j) : cA R' f' := by
  obtain ⟨a1, a2⟩ := h
  refine ⟨fun s hs => ?_, fun k hk => ?_⟩
  · rw [h1 20 (by omega) (by omega), h1 21 (by omega) (by omega), h1 23 (by omega) (by omega), h1 24 (by omega) (by omega), h1 25 (by omega) (by omega), h2 _ (by omega) (by omega), h2 _ (by omega) (by omega), h2 _ (by omega) (by omega), h3 _ (by omega) (by omega), h3 _ (by omega) (by omega)]
    exact a1 s hs
  · rw [h1 22 (by omega) (by omega), h2 _ (by omega) (by omega)]
    exact a2 k hk
def cL (R : aM) (f : Nat → Int32) (B : Nat) : Prop := ∀ l, l < 48 → ∃ x y z, x ≤ B ∧ y ≤ B ∧ z ≤ B ∧ R.2.1 6 l = nI x ∧ f (968 + 4 * l + 1) = nI x ∧ R.2.1 7 l = nI y ∧ f (968 + 4 * l + 2) = nI y ∧ R.2.1 8 l = nI z ∧ f (968 + 4 * l + 3) = nI z
theorem cL.cg {R R' : aM} {f f' : Nat → Int32} {B B' : Nat} (h : cL R f B) (hB : B ≤ B') (h1 : ∀ k, 6 ≤ k → k ≤ 8 → R'.2.1 k = R.2.1 k) (h2 : ∀ l k, l < 48 → k < 4 → ¬ k = 0 → f' (968 + 4 * l + k) = f (968 + 4 * l + k)) : cL R' f' B' := by
  intro l hl
  obtain ⟨x, y, z, a1, a2, a3, a4, a5, a6, a7, a8, a9⟩ := h l hl
  refine ⟨x, y, z, by omega, by omega, by omega, ?_, ?_, ?_, ?_, ?_, ?_⟩
  · rw [h1 6 (by omega) (by omega)]; exact a4
  · rw [h2 l 1 hl (by omega) (by omega)]; exact a5
  · rw [h1 7 (by omega) (by omega)]; exact a6
  · rw [h2 l 2 hl (by omega) (by omega)]; exact a7
  · rw [h1 8 (by omega) (by omega)]; exact a8
  · rw [h2 l 3 hl (by omega) (by omega)]; exact a9
theorem mA_At {R : aM} {k l i : Nat} {v : Int32} : (mA R k l v).2.1 k i = if i = l then v else R.2.1 k i := by simp [mA, up2]
theorem cL_up6 {R : aM} {f : Nat → Int32} {B B' l x' : Nat} (h : cL R f B) (hB : B ≤ B') (hx : x' ≤ B') : cL (mA R 6 l (nI x')) (up f (968 + 4 * l + 1) (nI x')) B' := by
  intro l' hl'
  obtain ⟨x, y, z, a1, a2, a3, a4, a5, a6, a7, a8, a9⟩ := h l' hl'
  rw [mA_o (show ¬ 7 = 6 by decide), mA_o (show ¬ 8 = 6 by decide), mA_At]
  by_cases e : l' = l
  · subst e
    refine ⟨x', y, z, hx, by omega, by omega, by rw [if_pos rfl], up_s _ _ _, a6, ?_, a8, ?_⟩
    · rw [up_o (by omega)]; exact a7
    · rw [up_o (by omega)]; exact a9
  · refine ⟨x, y, z, by omega, by omega, by omega, by rw [if_neg e]; exact a4, ?_, a6, ?_, a8, ?_⟩
    · rw [up_o (by omega)]; exact a5
    · rw [up_o (by omega)]; exact a7
    · rw [up_o (by omega)]; exact a9
theorem cL_up7 {R : aM} {f : Nat → Int32} {B B' l y' : Nat} (h : cL R f B) (hB : B ≤ B') (hy : y' ≤ B') : cL (mA R 7 l (nI y')) (up f (968 + 4 * l + 2) (nI y')) B' := by
  intro l' hl'
  obtain ⟨x, y, z, a1, a2, a3, a4, a5, a6, a7, a8, a9⟩ := h l' hl'
  rw [mA_o (show ¬ 6 = 7 by decide), mA_o (show ¬ 8 = 7 by decide), mA_At]
  by_cases e : l' = l
  · subst e
    refine ⟨x, y', z, by omega, hy, by omega, a4, ?_, by rw [if_pos rfl], up_s _ _ _, a8, ?_⟩
    · rw [up_o (by omega)]; exact a5
    · rw [up_o (by omega)]; exact a9
  · refine ⟨x, y, z, by omega, by omega, by omega, a4, ?_, by rw [if_neg e]; exact a6, ?_, a8, ?_⟩
    · rw [up_o (by omega)]; exact a5
    · rw [up_o (by omega)]; exact a7
    · rw [up_o (by omega)]; exact a9
theorem cL_up8 {R : aM} {f : Nat → Int32} {B B' l z' : Nat} (h : cL R f B) (hB : B ≤ B') (hz : z' ≤ B') : cL (mA R 8 l (nI z')) (up f (968 + 4 * l + 3) (nI z')) B' := by
  intro l' hl'
  obtain ⟨x, y, z, a1, a2, a3, a4, a5, a6, a7, a8, a9⟩ := h l' hl'
  rw [mA_o (show ¬ 6 = 8 by decide), mA_o (show ¬ 7 = 8 by decide), mA_At]
  by_cases e : l' = l
  · subst e
    refine ⟨x, y, z', by omega, by omega, hz, a4, ?_, a6, ?_, by rw [if_pos rfl], up_s _ _ _⟩
    · rw [up_o (by omega)]; exact a5
    · rw [up_o (by omega)]; exact a7
  · refine ⟨x, y, z, by omega, by omega, by omega, a4, ?_, a6, ?_, by rw [if_neg e]; exact a8, ?_⟩
    · rw [up_o (by omega)]; exact a5
    · rw [up_o (by omega)]; exact a7
    · rw [up_o (by omega)]; exact a9
/-- what waits -/
def cQ (R : aM) (f : Nat → Int32) (n lv : Nat) (wl : Nat → List Sg) : Prop := (∃ cs fr own, QC R.2.1 (R.1 5 11) wl cs fr own) ∧ (∀ s, s < 8 → WS f s (wl s) ∧ R.2.1 16 s = nI (wl s).length ∧ (∀ x, x ∈ wl s → 0 < x.1 ∧ x.2.2.1 < lv) ∧ (n ≤ s → wl s = [])) ∧ R.1 5 12 = nI (tot wl) ∧ (∀ s b v, s < 8 → b < 2 → v < 3 → f (968 + 4 * (6 * s + 3 * b + v)) = if ql wl s b v = [] then 0 else 1)
theorem cQ.cg {R R' : aM} {f f' : Nat → Int32} {n lv : Nat} {wl : Nat → List Sg} (h : cQ R f n lv wl) (h1 : R'.1 5 = R.1 5) (h2 : ∀ k, 9 ≤ k → k ≤ 16 → R'.2.1 k = R.2.1 k) (h3 : ∀ j, j < 968 → f' j = f j) (h4 : ∀ l, l < 48 → f' (968 + 4 * l) = f (968 + 4 * l)) : cQ R' f' n lv wl := by
  obtain ⟨⟨cs, fr, own, a1⟩, a2, a3, a4⟩ := h
  refine ⟨⟨cs, fr, own, ?_⟩, fun s hs => ?_, by rw [h1]; exact a3, fun s b v hs hb hv => ?_⟩
  · rw [h1]
    exact a1.cg (fun k p q => h2 k p (by omega))
  · obtain ⟨b1, b2, b3⟩ := a2 s hs
    exact ⟨b1.cg hs h3, by rw [h2 16 (by omega) (by omega)]; exact b2, b3⟩
  · rw [h4 _ (by omega)]
    exact a4 s b v hs hb hv
theorem cQ_len {R : aM} {f : Nat → Int32} {n lv : Nat} {wl : Nat → List Sg} (h : cQ R f n lv wl) {s b v : Nat} (hs : s < 8) (hb : b < 2) (hv : v < 3) : R.2.1 9 ((s * 2 + b) * 3 + v) = nI (ql wl s b v).length ∧ (ql wl s b v).length ≤ 30 := by
  obtain ⟨⟨cs, fr, own, a1⟩, a2, a3, a4⟩ := h
  obtain ⟨⟨q1, q2, q3, q4, q5, q6, q7⟩, -⟩ := a1.1 s b v hs hb hv
  have e1 := congrArg List.length q7
  rw [List.length_map, List.length_map] at e1
  refine ⟨by rw [q6, e1], ?_⟩
  have := (a2 s hs).1.2.1
  exact Nat.le_trans (List.length_filter_le _ _) this
theorem cQ_act {R : aM} {f : Nat → Int32} {n lv : Nat} {wl : Nat → List Sg} (h : cQ R f n lv wl) {s b v : Nat} (hs : s < 8) (hb : b < 2) (hv : v < 3) : (R.2.1 9 ((s * 2 + b) * 3 + v) ≤ 0 ↔ ql wl s b v = []) ∧ (f (968 + 4 * (6 * s + 3 * b + v)) = 1 ↔ ¬ ql wl s b v = []) := by
  obtain ⟨e1, e2⟩ := cQ_len h hs hb hv
  have e3 := h.2.2.2 s b v hs hb hv
  rw [e1, e3]
  cases hq : ql wl s b v with
  | nil => exact ⟨⟨fun _ => rfl, fun _ => by decide⟩, ⟨fun q => absurd q (by decide), fun q => absurd rfl q⟩⟩
  | cons x r =>
    rw [hq] at e2
    exact ⟨⟨fun q => absurd q (nI_nle (by rw [List.length_cons]; omega) (by omega)), fun q => (by cases q)⟩, ⟨fun _ q => (by cases q), fun _ => (if_neg (fun q => by cases q))⟩⟩
/-- reserved -/
def cO (R : aM) (f : Nat → Int32) (n B : Nat) : Prop := ∀ b, b < 2 → ∃ h e c, e ≤ 9 ∧ h ≤ n ∧ c ≤ B ∧ (e = 0 ↔ h = 0) ∧ ¬ e = 1 ∧ R.2.1 2 b = nI e ∧ f (1558 + 3 * b + 1) = nI e ∧ R.2.1 1 b = wI h ∧ f (1558 + 3 * b) = nI h ∧ f (1558 + 3 * b + 2) = nI c ∧ (¬ e = 0 → R.2.1 3 b = nI (c % e))
theorem cO.cg {R R' : aM} {f f' : Nat → Int32} {n B B' : Nat} (h : cO R f n B) (hB : B ≤ B') (h1 : ∀ k, 1 ≤ k → k ≤ 3 → R'.2.1 k = R.2.1 k) (h2 : ∀ j, 1558 ≤ j → j < 1564 → f' j = f j) : cO R' f' n B' := by
  intro b hb
  obtain ⟨x, e, c, a1, a2, a3, a4, a5, a6, a7, a8, a9, a10, a11⟩ := h b hb
  refine ⟨x, e, c, a1, a2, by omega, a4, a5, ?_, ?_, ?_, ?_, ?_, ?_⟩
  · rw [h1 2 (by omega) (by omega)]; exact a6
  · rw [h2 _ (by omega) (by omega)]; exact a7
  · rw [h1 1 (by omega) (by omega)]; exact a8
  · rw [h2 _ (by omega) (by omega)]; exact a9
  · rw [h2 _ (by omega) (by omega)]; exact a10
  · rw [h1 3 (by omega) (by omega)]; exact a11
/-- all but the hops and the slot -/
def Co (R : aM) (P : aP) (n dl bal lv t B : Nat) (wl : Nat → List Sg) (al : List (Nat → Int32)) (lg : LgT) (LL : List (Int32 × Int32)) : Prop :=
  cT R P.2 n dl bal lv t ∧ cW P.1 n dl bal lv ∧ cK R P.2 B ∧ cA R P.2 ∧ cL R P.2 B ∧ cQ R P.2 n lv wl ∧ cO R P.2 n B ∧ RgA R P.2 al ∧ RgT R P.2 lg ∧ cLd P.1 LL
/-- counts alone change (and asks of the slot) -/
def FrC (R R' : aM) (f f' : Nat → Int32) : Prop := (∀ k, ¬ k = 30 → R'.1 k = R.1 k) ∧ (∀ k, ¬ (k = 6 ∨ k = 7 ∨ k = 8) → R'.2.1 k = R.2.1 k) ∧ (∀ j, (j < 968 ∨ 1160 ≤ j ∨ j % 4 = 0) → f' j = f j) ∧ (∀ j, ¬ j = 7 → R'.1 30 j = R.1 30 j)
theorem FrC.rf (R : aM) (f : Nat → Int32) : FrC R R f f := ⟨fun _ _ => rfl, fun _ _ => rfl, fun _ _ => rfl, fun _ _ => rfl⟩
theorem FrC.tr {R R' R'' : aM} {f f' f'' : Nat → Int32} (h1 : FrC R R' f f') (h2 : FrC R' R'' f' f'') : FrC R R'' f f'' := ⟨fun k hk => (h2.1 k hk).trans (h1.1 k hk), fun k hk => (h2.2.1 k hk).trans (h1.2.1 k hk), fun j hj => (h2.2.2.1 j hj).trans (h1.2.2.1 j hj), fun j hj => (h2.2.2.2 j hj).trans (h1.2.2.2 j hj)⟩
theorem FrC.q {R R' : aM} {f f' : Nat → Int32} (h : FrC R R' f f') {n lv : Nat} {wl : Nat → List Sg} (hq : cQ R f n lv wl) : cQ R' f' n lv wl :=
  hq.cg (h.1 5 (by decide)) (fun k p q => h.2.1 k (by omega)) (fun j hj => h.2.2.1 j (Or.inl hj)) (fun l hl => h.2.2.1 _ (by omega))
theorem Co.frc {R R' : aM} {P P' : aP} {n dl bal lv t B B' : Nat} {wl : Nat → List Sg} {al : List (Nat → Int32)} {lg : LgT} {LL : List (Int32 × Int32)} (h : Co R P n dl bal lv t B wl al lg LL) (hF : FrC R R' P.2 P'.2) (hW : FrW P.1 P'.1) (hB : B ≤ B') (hL : cL R' P'.2 B') : Co R' P' n dl bal lv t B' wl al lg LL := by
  obtain ⟨a1, a2, a3, a4, a5, a6, a7, a8, a9, a10⟩ := h
  obtain ⟨f1, f2, f3, f4⟩ := hF
  refine ⟨a1.cg (f1 0 (by decide)) (f3 _ (by omega)) (f3 _ (by omega)) (f3 _ (by omega)), a2.cg hW, a3.cg hB (fun k _ => by rw [f1 19 (by decide)]) (fun j p q => f3 j (by omega)), a4.cg (fun k p q => f2 k (by omega)) (fun j p q => f3 j (by omega)) (fun j p q => f3 j (by omega)), hL, FrC.q ⟨f1, f2, f3, f4⟩ a6, a7.cg hB (fun k p q => f2 k (by omega)) (fun j p q => f3 j (by omega)), a8.cg (f1 28 (by decide)) (f2 29 (by decide)) (fun i hi => f3 _ (by omega)), a9.cg (f1 26 (by decide)) (f2 27 (by decide)) (fun i hi => f3 _ (by omega)), a10.cg hW⟩
