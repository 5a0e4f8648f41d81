/-! A BUS, A TICK, MANY TICKS: both alike -/
theorem foldl_app {α β : Type} (f : α → β → α) (a : α) (x y : List β) : (x ++ y).foldl f a = y.foldl f (x.foldl f a) := List.foldl_append
theorem S_by {n dl bal lv t b : Nat} (hb : b < 2) {lg : LgT} : ∀ (m i : Nat) (R : aM) (P : aP) (B : Nat) (wl : Nat → List Sg) (al : List (Nat → Int32)) (LL : List (Int32 × Int32)) (τ : Nat → Nat) (Ln : Nat → List (Option Se)) (h : Option Se), i + m = n → BI R P n dl bal lv t B b i wl al lg LL τ Ln h → B + 23 * m < 2 ^ 31 → LL.length + m ≤ 3300 →
    CByOk b n dl lv m i R ∧ ByOk b n dl lv m i P ∧ ∃ nw wl' τ' Ln' h', BI (rBy b n lv m i R) (mBy b n dl lv m i P) n dl bal lv t (B + 23 * m) b n wl' (nw.foldl RgA_p al) lg (LL ++ nw.map (fun x => (x 0, P.1.1 0 32))) τ' Ln' h' ∧
      (∀ q, ¬ q % 2 = b → τ' q = τ q) ∧ (rBy b n lv m i R).1 19 1 = R.1 19 1 + nI nw.length ∧ nw.length ≤ m ∧ (mBy b n dl lv m i P).1.1 0 32 = P.1.1 0 32 ∧ (mBy b n dl lv m i P).2 1550 = P.2 1550 ∧ (∀ p, ca p nw + LV p wl' Ln' h' ≤ LV p wl Ln h) ∧ (LV tt wl Ln h = 0 → Still P.2 (mBy b n dl lv m i P).2)
  | 0, i, R, P, B, wl, al, LL, τ, Ln, h, hi, hI, hB, hLL => by
    have hin : i = n := by omega
    subst hin
    refine ⟨⟨t, hI.1.1.1⟩, hI.1.2.1.1, [], wl, τ, Ln, h, ?_, fun _ _ => rfl, (Int32.add_zero _).symm, Nat.le_refl 0, rfl, rfl, fun p => ?_, fun _ _ _ => rfl⟩
    · rw [List.map_nil, List.append_nil]
      exact hI
    · show 0 + _ ≤ _
      omega
  | m + 1, i, R, P, B, wl, al, LL, τ, Ln, h, hi, hI, hB, hLL => by
    obtain ⟨v1, v2, nw, wl', τ', Ln', h', k1, k2, k3, k4, k5, k6, k7, k8⟩ := S_stn hI (by omega) hb (by omega) (by omega)
    obtain ⟨w1, w2, nw', wl'', τ'', Ln'', h'', j1, j2, j3, j4, j5, j6, j7, j8⟩ := S_by hb m (i + 1) _ _ (B + 23) wl' _ _ τ' Ln' h' (by omega) k1 (by omega) (by rw [List.length_append, List.length_map]; omega)
    refine ⟨⟨v1, w1⟩, ⟨v2, w2⟩, nw ++ nw', wl'', τ'', Ln'', h'', ?_, fun q hq => (j2 q hq).trans (k2 q hq), ?_, by rw [List.length_append]; omega, j5.trans k5, j6.trans k6, fun p => ?_, fun q0 => ?_⟩
    · rw [foldl_app, List.map_append, ← List.append_assoc, show B + 23 * (m + 1) = B + 23 + 23 * m by omega]
      rw [k5] at j1
      exact j1
    · show (rBy b n lv m (i + 1) _).1 19 1 = _
      rw [j3, k3, List.length_append, ← nI_add, Int32.add_assoc]
    · have a1 := k7 p
      have a2 := j7 p
      rw [ca_app]
      omega
    · have a1 := k7 tt
      exact (k8 q0).tr (j8 (by omega))
/-- a row between two ticks -/
def TI (R : aM) (P : aP) (n dl bal lv t B : Nat) (wl : Nat → List Sg) (al : List (Nat → Int32)) (lg : LgT) (LL : List (Int32 × Int32)) (Ln : Nat → List (Option Se)) : Prop := Co R P n dl bal lv t B wl al lg LL ∧ Lns R P.2 dl n (fun _ => t) Ln ∧ (∀ q, q < 14 → (Ln q).length ≤ dl) ∧ R.1 19 4 = nI (uS Ln) ∧ Uq (R.1 19 0) wl Ln
theorem Co.w {R : aM} {P : aP} {W' : aM} {n dl bal lv t B : Nat} {wl : Nat → List Sg} {al : List (Nat → Int32)} {lg : LgT} {LL : List (Int32 × Int32)} (h : Co R P n dl bal lv t B wl al lg LL) (h1 : W'.2.1 = P.1.2.1) (h2 : W'.1 0 12 = P.1.1 0 12) (h3 : W'.1 0 31 = P.1.1 0 31) : Co R (W', P.2) n dl bal lv t B wl al lg LL := by
  obtain ⟨a1, ⟨b1, b2, b3, b4⟩, a3, a4, a5, a6, a7, a8, a9, ⟨c1, c2⟩⟩ := h
  refine ⟨a1, ⟨?_, ?_, ?_, ?_⟩, a3, a4, a5, a6, a7, a8, a9, ⟨?_, ?_⟩⟩
  · show W'.1 0 12 = _; rw [h2]; exact b1
  · show W'.2.1 3 1 = _; rw [h1]; exact b2
  · show W'.2.1 3 2 = _; rw [h1]; exact b3
  · show W'.2.1 3 3 = _; rw [h1]; exact b4
  · show W'.1 0 31 = _; rw [h3]; exact c1
  · intro j x hj
    show W'.2.1 12 j = _ ∧ W'.2.1 13 j = _
    rw [h1]
    exact c2 j x hj
theorem BI_end {R : aM} {P : aP} {n dl bal lv t B b : Nat} {wl : Nat → List Sg} {al : List (Nat → Int32)} {lg : LgT} {LL : List (Int32 × Int32)} {τ : Nat → Nat} {Ln : Nat → List (Option Se)} {h : Option Se} (hI : BI R P n dl bal lv t B b n wl al lg LL τ Ln h) : h = none ∧ (∀ q, q < 14 → (Ln q).length ≤ dl) := by
  obtain ⟨-, -, hlen, hh, -, -⟩ := hI
  refine ⟨?_, fun q hq => (hlen q hq).elim id (fun z => by omega)⟩
  rcases hh with ⟨-, -, z, -⟩ | ⟨-, z⟩
  · omega
  · exact z
theorem hop_of {b n p : Nat} (h : p < n - 1) : ∃ j, j < n - 1 ∧ hopO b n j = p := by
  by_cases hb : b = 0
  · exact ⟨p, h, by unfold hopO; rw [if_pos hb]⟩
  · exact ⟨n - 2 - p, by omega, by unfold hopO; rw [if_neg hb]; omega⟩
theorem S_tick {R : aM} {P : aP} {n dl bal lv t B : Nat} {wl : Nat → List Sg} {al : List (Nat → Int32)} {lg : LgT} {LL : List (Int32 × Int32)} {Ln : Nat → List (Option Se)} (hI : TI R P n dl bal lv t B wl al lg LL Ln) (ht : t < 10000) (hB : B + 400 < 2 ^ 31) (hLL : LL.length + 16 ≤ 3300) :
    CTickOk R n dl lv ∧ TickOk P n dl lv ∧ ∃ nw wl' Ln', TI (rTick R n lv) (mTick P n dl lv) n dl bal lv (t + 1) (B + 400) wl' (nw.foldl RgA_p al) lg (LL ++ nw.map (fun x => (x 0, P.1.1 0 32 + 1))) Ln' ∧
      (rTick R n lv).1 19 1 = R.1 19 1 + nI nw.length ∧ nw.length ≤ 16 ∧ (mTick P n dl lv).1.1 0 32 = P.1.1 0 32 + 1 ∧ (mTick P n dl lv).2 1550 = P.2 1550 ∧ (∀ p, ca p nw + LV p wl' Ln' none ≤ LV p wl Ln none) ∧ (LV tt wl Ln none = 0 → Still P.2 (mTick P n dl lv).2) := by
  obtain ⟨hC, hL, hlen, hU, hUq⟩ := hI
  have hn8 : n ≤ 8 := hC.1.1.2.1
  have hdl : dl ≤ 3 := hC.1.1.2.2.2.1
  have h0 : BI R (mI (mI P.1 0 32 (P.1.1 0 32 + 1)) 0 21 0, P.2) n dl bal lv t B 0 0 wl al lg LL (fun _ => t) Ln none := by
    refine ⟨hC.w rfl (by simp [mI, up2]) (by simp [mI, up2]), hL, fun q hq => Or.inl (hlen q hq), Or.inr ⟨fun z => by omega, rfl⟩, hU, fun j hj => by rw [if_neg (by omega)]⟩
  obtain ⟨c1, b1, nw, wl1, τ1, Ln1, h1, k1, k2, k3, k4, k5, k6, k7, k8⟩ := S_by (by decide) n 0 R _ B wl al LL _ Ln none (by omega) h0 (by omega) (by omega)
  obtain ⟨e1, l1⟩ := BI_end k1
  subst e1
  have h32 : (mI (mI P.1 0 32 (P.1.1 0 32 + 1)) 0 21 0).1 0 32 = P.1.1 0 32 + 1 := by simp [mI, up2]
  simp only [h32] at k1 k5
  have h2 : BI (rBy 0 n lv n 0 R) (mI (mBy 0 n dl lv n 0 (mI (mI P.1 0 32 (P.1.1 0 32 + 1)) 0 21 0, P.2)).1 0 21 0, (mBy 0 n dl lv n 0 (mI (mI P.1 0 32 (P.1.1 0 32 + 1)) 0 21 0, P.2)).2) n dl bal lv t (B + 23 * n) 1 0 wl1 (nw.foldl RgA_p al) lg (LL ++ nw.map (fun x => (x 0, P.1.1 0 32 + 1))) τ1 Ln1 none := by
    obtain ⟨q1, q2, q3, q4, q5, q6⟩ := k1
    refine ⟨q1.w rfl (by simp [mI, up2]) (by simp [mI, up2]), q2, fun q hq => Or.inl (l1 q hq), Or.inr ⟨fun z => by omega, rfl⟩, q5, fun j hj => ?_⟩
    rw [if_neg (by omega), k2 _ (by omega)]
  obtain ⟨c2, b2, nw2, wl2, τ2, Ln2, h3, j1, j2, j3, j4, j5, j6, j7, j8⟩ := S_by (by decide) n 0 _ _ (B + 23 * n) wl1 _ _ τ1 Ln1 none (by omega) h2 (by omega) (by rw [List.length_append, List.length_map]; omega)
  obtain ⟨e2, l2⟩ := BI_end j1
  subst e2
  have h33 : (mI (mBy 0 n dl lv n 0 (mI (mI P.1 0 32 (P.1.1 0 32 + 1)) 0 21 0, P.2)).1 0 21 0).1 0 32 = P.1.1 0 32 + 1 := by
    rw [show (mI (mBy 0 n dl lv n 0 (mI (mI P.1 0 32 (P.1.1 0 32 + 1)) 0 21 0, P.2)).1 0 21 0).1 0 32 = (mBy 0 n dl lv n 0 (mI (mI P.1 0 32 (P.1.1 0 32 + 1)) 0 21 0, P.2)).1.1 0 32 by simp [mI, up2], k5]
  simp only [h33] at j1 j5
  have k1' := k1
  obtain ⟨q1, q2, q3, q4, q5, q6⟩ := j1
  have ok := q1.1.1
  have hst : (rBy 0 n lv n 0 R).1 0 0 = nI n := k1.1.1.1.1
  refine ⟨⟨c1, hst, c2⟩, ⟨b1, b2⟩, nw ++ nw2, wl2, Ln2, ?_, ?_, by rw [List.length_append]; omega, j5, ?_, fun p => ?_, fun q0 => ?_⟩
  · have ho : ∀ j, ¬ j = 1552 → (mTick P n dl lv).2 j = (mBy 1 n dl lv n 0 (mI (mBy 0 n dl lv n 0 (mI (mI P.1 0 32 (P.1.1 0 32 + 1)) 0 21 0, P.2)).1 0 21 0, (mBy 0 n dl lv n 0 (mI (mI P.1 0 32 (P.1.1 0 32 + 1)) 0 21 0, P.2)).2)).2 j := fun j hj => up_o hj
    have hI0 : ∀ k, ¬ k = 0 → (rTick R n lv).1 k = (rBy 1 n lv n 0 (rBy 0 n lv n 0 R)).1 k := fun k hk => mI_o hk
    have hW : (mTick P n dl lv).1 = (mBy 1 n dl lv n 0 (mI (mBy 0 n dl lv n 0 (mI (mI P.1 0 32 (P.1.1 0 32 + 1)) 0 21 0, P.2)).1 0 21 0, (mBy 0 n dl lv n 0 (mI (mI P.1 0 32 (P.1.1 0 32 + 1)) 0 21 0, P.2)).2)).1 := rfl
    have ht2 : (mTick P n dl lv).2 1552 = (mBy 1 n dl lv n 0 (mI (mBy 0 n dl lv n 0 (mI (mI P.1 0 32 (P.1.1 0 32 + 1)) 0 21 0, P.2)).1 0 21 0, (mBy 0 n dl lv n 0 (mI (mI P.1 0 32 (P.1.1 0 32 + 1)) 0 21 0, P.2)).2)).2 1552 + 1 := by
      unfold mTick
      simp only
      exact up_s _ _ _
    have hR6 : ∀ k, (rTick R n lv).1 0 k = if k = 6 then (rBy 1 n lv n 0 (rBy 0 n lv n 0 R)).1 0 6 + 1 else (rBy 1 n lv n 0 (rBy 0 n lv n 0 R)).1 0 k := fun k => mI_At
    have hRA : (rTick R n lv).2.1 = (rBy 1 n lv n 0 (rBy 0 n lv n 0 R)).2.1 := rfl
    have hk0 := nm_tick R n lv
    have hLV : ∀ p, LV p wl2 Ln2 none ≤ LV p wl Ln none := fun p => by
      have z1 := k7 p
      have z2 := j7 p
      omega
    generalize (mBy 1 n dl lv n 0 (mI (mBy 0 n dl lv n 0 (mI (mI P.1 0 32 (P.1.1 0 32 + 1)) 0 21 0, P.2)).1 0 21 0, (mBy 0 n dl lv n 0 (mI (mI P.1 0 32 (P.1.1 0 32 + 1)) 0 21 0, P.2)).2)) = P2 at *
    generalize rBy 1 n lv n 0 (rBy 0 n lv n 0 R) = R2 at *
    generalize rTick R n lv = R3 at *
    generalize mTick P n dl lv = P3 at *
    obtain ⟨a1, a2, a3, a4, a5, a6, a7, a8, a9, a10⟩ := q1
    obtain ⟨⟨o1, o2, o3, o4, o5, o6, o7, o8⟩, t1, t2, t3, t4, t5, t6⟩ := a1
    refine ⟨⟨⟨⟨?_, o2, ?_, o4, ?_, o6, ?_, by omega⟩, ?_, t2, ?_, ?_, ?_, t6⟩, ?_, ?_, ?_, ?_, ?_, ?_, ?_, ?_, ?_⟩, ⟨fun q hq => ?_, fun p b hp hb ho' => ?_⟩, l2, ?_, hUq.le hk0 hLV⟩
    · rw [hR6, if_neg (by decide)]; exact o1
    · rw [hR6, if_neg (by decide)]; exact o3
    · rw [hR6, if_neg (by decide)]; exact o5
    · rw [hR6, if_pos rfl, o7, nI_1]
    · rw [hR6, if_neg (by decide)]; exact t1
    · rw [hR6, if_neg (by decide), ho _ (by decide)]; exact t3
    · rw [hR6, if_neg (by decide), ho _ (by decide)]; exact t4
    · rw [ht2, t5, nI_1]
    · rw [hW]; exact a2
    · exact a3.cg (by omega) (fun k _ => by rw [hI0 19 (by decide)]) (fun j p q => ho j (by omega))
    · exact a4.cg (fun k _ _ => by rw [hRA]) (fun j p q => ho j (by omega)) (fun j p q => ho j (by omega))
    · exact a5.cg (by omega) (fun k _ _ => by rw [hRA]) (fun l k p q _ => ho _ (by omega))
    · exact a6.cg (hI0 5 (by decide)) (fun k _ _ => by rw [hRA]) (fun j p => ho j (by omega)) (fun l p => ho _ (by omega))
    · exact a7.cg (by omega) (fun k _ _ => by rw [hRA]) (fun j p q => ho j (by omega))
    · rw [foldl_app]
      exact a8.cg (hI0 28 (by decide)) (by rw [hRA]) (fun i hi => ho _ (by omega))
    · exact a9.cg (hI0 26 (by decide)) (by rw [hRA]) (fun i hi => ho _ (by omega))
    · rw [hW, List.map_append, ← List.append_assoc]
      exact a10
    · have hl := q2.1 q hq
      have hl' : Lane (R3.2.1 18) P3.2 q dl (τ2 q) (Ln2 q) := hl.cg hdl (fun i _ => by rw [hRA]) (fun i hi => ho _ (by omega))
      by_cases hp : q / 2 < n - 1
      · have hτq : τ2 q = t + 1 := by
          rcases (show q % 2 = 0 ∨ q % 2 = 1 by omega) with z | z
          · obtain ⟨j, hj1, hj2⟩ := hop_of (b := 0) hp
            have := k1'.2.2.2.2.2 j hj1
            rw [hj2, if_pos (by omega), show 2 * (q / 2) + 0 = q by omega] at this
            rw [j2 q (by omega)]
            exact this
          · obtain ⟨j, hj1, hj2⟩ := hop_of (b := 1) hp
            have := q6 j hj1
            rw [hj2, if_pos (by omega), show 2 * (q / 2) + 1 = q by omega] at this
            exact this
        rw [hτq] at hl'
        exact hl'
      · have := q2.2 (q / 2) (q % 2) (by omega) (by omega) (Or.inl (by omega))
        rw [show 2 * (q / 2) + q % 2 = q by omega] at this
        rw [this] at hl' ⊢
        exact hl'.nil
    · refine q2.2 p b hp hb ?_
      unfold opn at ho' ⊢
      rw [← ho 1550 (by decide)]
      exact ho'
    · rw [hI0 19 (by decide)]; exact q5
  · show (mI (rBy 1 n lv n 0 (rBy 0 n lv n 0 R)) 0 6 _).1 19 1 = _
    rw [mI_o (by decide), j3, k3, List.length_append, ← nI_add, Int32.add_assoc]
  · unfold mTick
    simp only
    rw [up_o (by decide), j6]
    exact k6
  · have a1 := k7 p
    have a2 := j7 p
    rw [ca_app]
    omega
  · have a1 := k7 tt
    refine ((k8 q0).tr (j8 (by omega))).tr (fun j hj => ?_)
    unfold mTick
    simp only
    rw [up_o (by omega)]
