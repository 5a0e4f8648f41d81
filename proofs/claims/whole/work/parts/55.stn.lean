/-! ONE STATION, BOTH -/
def BI (R : aM) (P : aP) (n dl bal lv t B b i : Nat) (wl : Nat → List Sg) (al : List (Nat → Int32)) (lg : LgT) (LL : List (Int32 × Int32)) (τ : Nat → Nat) (Ln : Nat → List (Option Se)) (h : Option Se) : Prop :=
  Co R P n dl bal lv t B wl al lg LL ∧ Lns R P.2 dl n τ Ln ∧ (∀ q, q < 14 → (Ln q).length ≤ dl ∨ (0 < i ∧ i < n ∧ q = 2 * hopO b n (i - 1) + b)) ∧
  ((dl = 0 ∧ 0 < i ∧ i < n ∧ opn P.2 (hopO b n (i - 1)) ∧ ∃ e, h = some e ∧ hOk R P e) ∨ (¬ (dl = 0 ∧ 0 < i ∧ i < n ∧ opn P.2 (hopO b n (i - 1))) ∧ h = none)) ∧
  R.1 19 4 = nI (uS Ln + uO h) ∧ (∀ j, j < n - 1 → τ (2 * hopO b n j + b) = if j < i then t + 1 else t)
theorem rVisit_eq (R : aM) (s b lv : Nat) : rVisit R s b lv = if (rRecv R s b).1 30 0 = 0 then rRecv R s b else rOn (rIn (rRecv R s b) s b lv) s b := rfl
theorem Co_place {R : aM} {P : aP} {n dl bal lv t B : Nat} {wl : Nat → List Sg} {al : List (Nat → Int32)} {lg : LgT} {LL : List (Int32 × Int32)} (h : Co R P n dl bal lv t B wl al lg LL) : ∃ Q, tdPl (tdOpen R 28) 28 0 = nI Q ∧ Q + 4 < 200 := by
  obtain ⟨st, st', k0, k1, k2, k3, k4, k5, k6, k7, k8⟩ := RgA_place h.2.2.2.2.2.2.2.1 (fun _ => 0)
  exact ⟨_, k8, by omega⟩
theorem Co_first {R : aM} {P : aP} {n dl bal lv t B : Nat} {wl : Nat → List Sg} {al : List (Nat → Int32)} {lg : LgT} {LL : List (Int32 × Int32)} (h : Co R P n dl bal lv t B wl al lg LL) : ∀ l, l < 48 → ¬ R.2.1 9 l ≤ 0 → ∃ c, c < 240 ∧ R.2.1 10 l = nI c := by
  intro l hl hq
  obtain ⟨⟨cs, fr, own, a1⟩, a2, a3, a4⟩ := h.2.2.2.2.2.1
  obtain ⟨⟨q1, q2, q3, q4, q5, q6, q7⟩, hown⟩ := a1.1 (l / 6) (l % 6 / 3) (l % 3) (by omega) (by omega) (by omega)
  rw [show (l / 6 * 2 + l % 6 / 3) * 3 + l % 3 = l by omega] at q1 q4 q6
  cases hc : cs l with
  | nil =>
    rw [hc] at q6
    rw [q6] at hq
    exact absurd (show nI 0 ≤ 0 by decide) hq
  | cons c r =>
    rw [hc] at q1 q4
    exact ⟨c, q1 c (List.mem_cons_self ..), q4 (by simp)⟩
theorem Co_VOk {R : aM} {P : aP} {n dl bal lv t B s b : Nat} {wl : Nat → List Sg} {al : List (Nat → Int32)} {lg : LgT} {LL : List (Int32 × Int32)} {e : Se} (h : Co R P n dl bal lv t B wl al lg LL) (hs : s < 8) (hb : b < 2) (he : hOk R P e) (hLL : LL.length < 3300) : VOk P s b := by
  obtain ⟨hc, ⟨m1, m2, m3, m4, m5⟩, ⟨z1, z2, z3, z4, z5, z6, z7⟩, t1, t2⟩ := he
  have hQ := h.2.2.2.2.2.1
  obtain ⟨w1, -⟩ := hQ.2.1 s hs
  refine ⟨⟨(wl s).length, w1.2.1, w1.1, fun v hv hq => ?_⟩, fun hq => ?_, ⟨LL.length, hLL, h.2.2.2.2.2.2.2.2.2.1⟩, ?_⟩
  · have hne := (cQ_act hQ hs hb hv).2.mp hq
    rcases spot_cases hs hb hv w1 with ⟨r1, -⟩ | ⟨l1, x, l2, r1, r2, r3, r4⟩
    · exact absurd r1 hne
    · have := w1.2.1
      rw [r1, List.length_append] at this
      rw [r4]
      exact nI_nm1 (by omega)
  · rw [m1] at hq
    have : ¬ zN e = 0 := fun q => hq (by rw [q]; decide)
    exact ⟨zF e, z1, (m5 this).1⟩
  · obtain ⟨st, b1, b2, b3, b4, b5, b6, b7, b8⟩ := h.2.2.2.2.2.2.2.1
    exact ⟨al.length, b6, b7⟩
theorem rFl_0 (R : aM) (s b lv : Nat) : (rFl R s b lv).1 0 = R.1 0 := by
  have h : (if R.1 30 1 = 0 then rFill R s b lv else R).1 0 = R.1 0 := by
    split
    · exact rFill_0 R s b lv
    · rfl
  unfold rFl
  simp only
  generalize (if R.1 30 1 = 0 then rFill R s b lv else R) = R3 at h
  split
  · rw [mI_o (by decide)]; exact h
  · exact h
theorem S_stn {R : aM} {P : aP} {n dl bal lv t B b i : Nat} {wl : Nat → List Sg} {al : List (Nat → Int32)} {lg : LgT} {LL : List (Int32 × Int32)} {τ : Nat → Nat} {Ln : Nat → List (Option Se)} {h : Option Se} (hI : BI R P n dl bal lv t B b i wl al lg LL τ Ln h) (hi : i < n) (hb : b < 2) (hB : B + 23 < 2 ^ 31) (hLL : LL.length < 3300) :
    VisOk R n dl lv (stn i b n) b ∧ StnOk P i b n dl lv ∧ ∃ nw wl' τ' Ln' h', BI (rVisit R (stn i b n) b lv) (mStn P i b n dl lv) n dl bal lv t (B + 23) b (i + 1) wl' (nw.foldl RgA_p al) lg (LL ++ nw.map (fun x => (x 0, P.1.1 0 32))) τ' Ln' h' ∧
      (∀ q, ¬ q % 2 = b → τ' q = τ q) ∧ (rVisit R (stn i b n) b lv).1 19 1 = R.1 19 1 + nI nw.length ∧ nw.length ≤ 1 ∧ (mStn P i b n dl lv).1.1 0 32 = P.1.1 0 32 ∧ (mStn P i b n dl lv).2 1550 = P.2 1550 ∧ (∀ p, ca p nw + LV p wl' Ln' h' ≤ LV p wl Ln h) ∧ (LV tt wl Ln h = 0 → Still P.2 (mStn P i b n dl lv).2) := by
  obtain ⟨hC, hL, hlen, hh, hU, hτ⟩ := hI
  have hn8 : n ≤ 8 := hC.1.1.2.1
  have hdl : dl ≤ 3 := hC.1.1.2.2.2.1
  have hs : stn i b n < n := stn_lt hi
  have hn2 : 2 ≤ n := hC.1.2.2.2.2.2.2.1
  obtain ⟨Ln1, x, r1, r2, r3, r4, r5, r6, r7, r8, r9, r10⟩ := S_recv (h := h) hC hL hi hb (by omega) (fun hi0 => by rw [hτ (i - 1) (by omega), if_pos (by omega)]) (fun q hq => (hlen q hq).imp id (fun z => ⟨z.1, z.2.2⟩)) (hh.imp (fun z => ⟨z.1, z.2.1, z.2.2.2.1, z.2.2.2.2⟩) (fun z => ⟨fun y => z.1 ⟨y.1, y.2.1, hi, y.2.2⟩, z.2⟩))
  have hvis : VisOk R n dl lv (stn i b n) b := by
    refine ⟨⟨t, hC.1.1⟩, Co_first hC, Co_place hC, fun g1 g2 => ?_⟩
    rcases r4 with ⟨-, -, k, -⟩ | ⟨e, -, ⟨c1, c2, c3, c4, c5⟩, -, ⟨z1, -⟩, -⟩
    · exact absurd k g1
    · have : ¬ zN e = 0 := fun q => g2 (Or.inl (c1.trans q))
      exact ⟨zF e, z1, (c5 this).1⟩
  have hstn0 : P.1.1 0 12 = nI n ∧ P.1.2.1 3 1 = nI dl ∧ P.1.2.1 3 3 = nI lv := ⟨hC.2.1.1, hC.2.1.2.1, hC.2.1.2.2.2⟩
  have hown0 : ¬ P.2 (1558 + 3 * b) = 0 → ¬ P.2 (1558 + 3 * b + 1) = 0 := by
    obtain ⟨y, e, c, a1, a2, a3, a4, a5, a6, a7, a8, a9, a10, a11⟩ := hC.2.2.2.2.2.2.1 b hb
    intro q
    rw [a7]
    have : ¬ e = 0 := fun z => q (by rw [a9, a4.mp z]; rfl)
    exact nI_ne0 (by omega) (by omega)
  have hq4 : ∀ q, q < 14 → ∃ c, c ≤ 4 ∧ P.2 (1200 + 25 * q) = nI c := fun q hq => ⟨(Ln q).length, by have := (hL.1 q hq).2.1; omega, (hL.1 q hq).1⟩
  have hlast : ∀ P5 : aP, (∀ j, 1200 ≤ j → j < 1550 → P5.2 j = (sR P i (stn i b n) b dl).2 j) → ∀ q, q < 14 → ∃ c, c < 4 ∧ P5.2 (1200 + 25 * q) = nI c := fun P5 h5 q hq => ⟨(Ln1 q).length, by have := r3 q hq; omega, by rw [h5 _ (by omega) (by omega)]; exact (r2.1 q hq).1⟩
  have hτs : i < n - 1 → τ (2 * hopO b n i + b) = t := fun hi1 => by rw [hτ i hi1, if_neg (by omega)]
  have hτ2 : ∀ j, j < n - 1 → (if i < n - 1 then upl τ (2 * hopO b n i + b) (t + 1) else τ) (2 * hopO b n j + b) = if j < i + 1 then t + 1 else t := by
    intro j hj
    by_cases c : i < n - 1
    · rw [if_pos c]
      by_cases hji : j = i
      · rw [hji, upl_s, if_pos (by omega)]
      · rw [upl_o (by unfold hopO; split <;> omega), hτ j hj]
        by_cases q : j < i
        · rw [if_pos q, if_pos (by omega)]
        · rw [if_neg q, if_neg (by omega)]
    · rw [if_neg c, hτ j hj, if_pos (by omega), if_pos (by omega)]
  have hτo : ∀ q, ¬ q % 2 = b → (if i < n - 1 then upl τ (2 * hopO b n i + b) (t + 1) else τ) q = τ q := by
    intro q hq
    by_cases c : i < n - 1
    · rw [if_pos c, upl_o (by omega)]
    · rw [if_neg c]
  -- the end, out of what S_send says
  have fin : ∀ (R5 : aM) (P5 : aP) (nw : List (Nat → Int32)) (wl5 : Nat → List Sg) (x5 : Option Se), Co R5 P5 n dl bal lv t (B + 23) wl5 (nw.foldl RgA_p al) lg (LL ++ nw.map (fun x => (x 0, P.1.1 0 32))) → Lns R5 P5.2 dl n τ Ln1 → ((x5 = none ∧ 0 < dl ∧ P5.1.1 0 21 = 0) ∨ (∃ e, x5 = some e ∧ hOk R5 P5 e)) → R5.1 19 4 = nI (uS Ln1 + uO x5) → R5.1 19 1 = R.1 19 1 + nI nw.length → nw.length ≤ 1 → P5.1.1 0 32 = P.1.1 0 32 → P5.2 1550 = P.2 1550 → (∀ p, ca p nw + LV p wl5 Ln1 x5 ≤ LV p wl Ln h) → (LV tt wl Ln h = 0 → Still P.2 P5.2) → rVisit R (stn i b n) b lv = onR R5 x5 (stn i b n) b → mStn P i b n dl lv = sS P5 i (stn i b n) b n dl →
      ∃ nw wl' τ' Ln' h', BI (rVisit R (stn i b n) b lv) (mStn P i b n dl lv) n dl bal lv t (B + 23) b (i + 1) wl' (nw.foldl RgA_p al) lg (LL ++ nw.map (fun x => (x 0, P.1.1 0 32))) τ' Ln' h' ∧
      (∀ q, ¬ q % 2 = b → τ' q = τ q) ∧ (rVisit R (stn i b n) b lv).1 19 1 = R.1 19 1 + nI nw.length ∧ nw.length ≤ 1 ∧ (mStn P i b n dl lv).1.1 0 32 = P.1.1 0 32 ∧ (mStn P i b n dl lv).2 1550 = P.2 1550 ∧ (∀ p, ca p nw + LV p wl' Ln' h' ≤ LV p wl Ln h) ∧ (LV tt wl Ln h = 0 → Still P.2 (mStn P i b n dl lv).2) := by
    intro R5 P5 nw wl5 x5 g1 g2 g3 g4 g5 g6 g7 g8 g9 g10 g11 g12
    obtain ⟨Ln2, h', s1, s2, s3, s4, s5, s6, s7, s8, s9, s10⟩ := S_send g1 g2 hi hb hτs r3 g3 g4
    rw [g11, g12]
    have hopn : opn (sS P5 i (stn i b n) b n dl).2 (hopO b n i) ↔ opn P5.2 (hopO b n i) := by unfold opn; rw [s8]
    refine ⟨nw, wl5, _, Ln2, h', ⟨s1, s2, fun q hq => (s3 q hq).imp id (fun z => ⟨by omega, by omega, z.2⟩), ?_, s5, hτ2⟩, hτo, by rw [s6]; exact g5, g6, s7.trans g7, s8.trans g8, fun p => ?_, fun q0 => ?_⟩
    · rw [show i + 1 - 1 = i by omega]
      rcases s4 with ⟨k1, k2, k3, k4⟩ | ⟨k1, k2⟩
      · exact Or.inl ⟨k1, by omega, by omega, hopn.mpr k3, k4⟩
      · exact Or.inr ⟨fun z => k1 ⟨z.1, by omega, hopn.mp z.2.2.2⟩, k2⟩
    · refine Nat.le_trans ?_ (g9 p)
      unfold LV
      rcases s10 with ⟨k1, k2 | k2⟩ | ⟨k1, q, k2, k3⟩
      · rw [k1, k2]; exact Nat.le_refl _
      · rw [k1, k2]
        show ca p nw + (CW p wl5 + CN p Ln1 + 0) ≤ _
        omega
      · have := CN_upl (p := p) (Ln := Ln1) (L := Ln1 q ++ [x5]) k2
        rw [cl_app, ← k3] at this
        rw [k1]
        show ca p nw + (CW p wl5 + CN p Ln2 + 0) ≤ _
        omega
    · have h0 := g9 tt
      rw [q0] at h0
      unfold LV at h0
      have hx0 : uO x5 = 0 := by
        have : ceO tt x5 = uO x5 := by cases x5 <;> rfl
        omega
      exact (g10 q0).tr (s9 hx0)
  have hLVx : ∀ p, CN p Ln1 + ceO p x ≤ CN p Ln + ceO p h := by
    intro p
    rcases r10 with ⟨k1, k2 | k2 | ⟨e, k2, k3⟩⟩ | ⟨k1, q, L, k2, k3, k4⟩
    · rw [k1, k2]; exact Nat.le_refl _
    · rw [k1, k2]; exact Nat.add_le_add_left (Nat.zero_le _) _
    · rw [k1, k2]
      show _ + ce p e ≤ _
      rw [ce0 (ur0 k3)]
      omega
    · have := CN_upl (p := p) (Ln := Ln) (L := L) k2
      rw [k3, cl_cons, ← k4] at this
      rw [k1]
      show _ ≤ _ + 0
      omega
  rcases r4 with ⟨x0, d0, t0, t1⟩ | ⟨e, x0, he⟩
  · subst x0
    have e1 : rVisit R (stn i b n) b lv = rRecv R (stn i b n) b := by rw [rVisit_eq, if_pos t0]
    have e2 : mStn P i b n dl lv = sS (sR P i (stn i b n) b dl) i (stn i b n) b n dl := by
      unfold mStn sV
      rw [if_pos t1]
    refine ⟨hvis, ⟨hstn0.1, hstn0.2.1, hstn0.2.2, hown0, hq4, fun q => absurd t1 q, hlast _ (fun j _ _ => by unfold sV; rw [if_pos t1])⟩, fin (rRecv R (stn i b n) b) (sR P i (stn i b n) b dl) [] wl none ?_ r2 (Or.inl ⟨rfl, d0, t1⟩) ?_ ?_ (by decide) r7 r8 (fun p => ?_) (fun _ => r9) e1 e2⟩
    · rw [List.map_nil, List.append_nil]; exact r1.mono (by omega)
    · rw [r5, hU, r6]
    · rw [r5]; exact (Int32.add_zero _).symm
    · have := hLVx p
      unfold LV
      show 0 + _ ≤ _
      omega
  · subst x0
    have hnt : ¬ (rRecv R (stn i b n) b).1 30 0 = 0 := by rw [he.2.2.2.1]; decide
    have hnt2 : ¬ (sR P i (stn i b n) b dl).1.1 0 21 = 0 := by rw [he.2.2.2.2]; decide
    have e1 : rVisit R (stn i b n) b lv = rOn (rIn (rRecv R (stn i b n) b) (stn i b n) b lv) (stn i b n) b := by rw [rVisit_eq, if_neg hnt]
    have e2 : mStn P i b n dl lv = sS (mVis (sR P i (stn i b n) b dl) (stn i b n) b lv) i (stn i b n) b n dl := by
      unfold mStn sV
      rw [if_neg hnt2]
    have hU1 : (rRecv R (stn i b n) b).1 19 4 = nI (uS Ln1 + ur e) := by rw [r5, hU, ← r6]; rfl
    obtain ⟨nw, wl', e', U', v1, v2, v3, v4, v5, v6, v7, v8, v9, v10, v11⟩ := S_vis r1 (show stn i b n < 8 by omega) hb (by omega) he.1 he.2.1 he.2.2.1 hU1 (by omega) hLL
    rw [r7] at v1
    refine ⟨hvis, ⟨hstn0.1, hstn0.2.1, hstn0.2.2, hown0, hq4, fun _ => Co_VOk r1 (by omega) hb he hLL, hlast _ (fun j p q => by unfold sV; rw [if_neg hnt2]; exact v7.2.1 j p q)⟩, fin _ _ nw wl' (some e') (v1.mono (by omega)) ?_ (Or.inr ⟨e', rfl, v2, v3, v4, by rw [v7.2.2.1]; exact he.2.2.2.1, by rw [v7.2.2.2.1]; exact he.2.2.2.2⟩) ?_ ?_ v9 (v7.2.2.2.2.trans r7) ?_ (fun p => ?_) (fun q0 => ?_) e1 e2⟩
    · refine r2.cg hdl v7.1 (fun j p q => ?_)
      by_cases hj : j = 1550
      · rw [hj, ← v1.1.2.2.2.2.1, ← r1.1.2.2.2.2.1]
        have hF : (rIn (rRecv R (stn i b n) b) (stn i b n) b lv).1 0 = (rRecv R (stn i b n) b).1 0 := by
          unfold rIn
          rw [rAsks_0, rFl_0, rReadAt_0]
        rw [hF]
      · exact v7.2.1 j p (by omega)
    · rw [v5]
      show nI U' = nI (uS Ln1 + ur e')
      congr 1
      omega
    · rw [v8, r5]
    · rw [← r8, ← v1.1.2.2.2.2.1, ← r1.1.2.2.2.2.1]
      have hF : (rIn (rRecv R (stn i b n) b) (stn i b n) b lv).1 0 = (rRecv R (stn i b n) b).1 0 := by
        unfold rIn
        rw [rAsks_0, rFl_0, rReadAt_0]
      rw [hF]
    · have k1 := Prov_cnt (p := p) v10 (by omega) he.2.2.1.1 he.2.2.1.2.1
      have k2 := hLVx p
      unfold LV
      have k3 : ceO p (some e) = ce p e := rfl
      show ca p nw + (CW p wl' + CN p Ln1 + ce p e') ≤ _
      omega
    · have hw0 : wl (stn i b n) = [] := by
        unfold LV at q0
        rw [CW_tt] at q0
        have h1 := tot_upl (wl := wl) (l := []) (show stn i b n < 8 by omega)
        rw [List.length_nil] at h1
        exact List.length_eq_zero_iff.mp (by omega)
      exact r9.tr (v11 hw0)
