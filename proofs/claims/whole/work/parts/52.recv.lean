/-! THE SLOT COMES -/
def hopO (b n i : Nat) : Nat := if b = 0 then i else n - 2 - i
def opn (f : Nat → Int32) (p : Nat) : Prop := (f 1550 >>> (nI p &&& 31)) &&& 1 = 0
def uO : Option Se → Nat
  | none => 0
  | some e => ur e
def uL (L : List (Option Se)) : Nat := (L.map uO).sum
def uS (Ln : Nat → List (Option Se)) : Nat := uL (Ln 0) + uL (Ln 1) + uL (Ln 2) + uL (Ln 3) + uL (Ln 4) + uL (Ln 5) + uL (Ln 6) + uL (Ln 7) + uL (Ln 8) + uL (Ln 9) + uL (Ln 10) + uL (Ln 11) + uL (Ln 12) + uL (Ln 13)
theorem uS_upl {Ln : Nat → List (Option Se)} {q : Nat} {L : List (Option Se)} (hq : q < 14) : uS (upl Ln q L) + uL (Ln q) = uS Ln + uL L := by
  unfold uS
  rcases (show q = 0 ∨ q = 1 ∨ q = 2 ∨ q = 3 ∨ q = 4 ∨ q = 5 ∨ q = 6 ∨ q = 7 ∨ q = 8 ∨ q = 9 ∨ q = 10 ∨ q = 11 ∨ q = 12 ∨ q = 13 by omega) with rfl | rfl | rfl | rfl | rfl | rfl | rfl | rfl | rfl | rfl | rfl | rfl | rfl | rfl <;> simp only [upl, if_true, Nat.reduceEqDiff, if_false, reduceIte] <;> omega
theorem uL_cons (x : Option Se) (L : List (Option Se)) : uL (x :: L) = uO x + uL L := by simp [uL]
theorem uL_app (L : List (Option Se)) (x : Option Se) : uL (L ++ [x]) = uL L + uO x := by simp [uL]
def Lns (R : aM) (f : Nat → Int32) (dl n : Nat) (τ : Nat → Nat) (Ln : Nat → List (Option Se)) : Prop := (∀ q, q < 14 → Lane (R.2.1 18) f q dl (τ q) (Ln q)) ∧ (∀ p b, p < 7 → b < 2 → (n - 1 ≤ p ∨ dl = 0 ∨ ¬ opn f p) → Ln (2 * p + b) = [])
theorem Lns.cg {R R' : aM} {f f' : Nat → Int32} {dl n : Nat} {τ : Nat → Nat} {Ln : Nat → List (Option Se)} (h : Lns R f dl n τ Ln) (hdl : dl ≤ 3) (h1 : R'.2.1 18 = R.2.1 18) (h2 : ∀ j, 1200 ≤ j → j ≤ 1550 → f' j = f j) : Lns R' f' dl n τ Ln := by
  refine ⟨fun q hq => (h.1 q hq).cg hdl (fun i _ => by rw [h1]) (fun i hi => h2 _ (by omega) (by omega)), fun p b hp hb ho => h.2 p b hp hb ?_⟩
  unfold opn at ho ⊢
  rw [← h2 1550 (by omega) (by omega)]
  exact ho
theorem nI_b0 {b : Nat} (hb : b < 2) : (nI b = 0) = (b = 0) := propext ⟨fun q => (nI_eq (b := 0) (by omega) (by omega)).mp q, fun q => by rw [q]; rfl⟩
theorem nI_pr {n : Nat} (h : 0 < n) : nI n - 1 = nI (n - 1) := by
  rw [show n = n - 1 + 1 by omega, nI_pred]
  rfl
theorem rRecv_0 {R : aM} {n dl lv t b : Nat} (ok : RowOk R n dl lv t) (hn : 2 ≤ n) (hb : b < 2) : rRecv R (stn 0 b n) b = rHead R b := by
  unfold rRecv stn
  simp only [nI_b0 hb]
  refine if_pos ?_
  by_cases hq : b = 0
  · rw [if_pos hq, if_pos hq]
    left
    decide
  · rw [if_neg hq, if_neg hq]
    right
    rw [ok.1, nI_pr (by omega), Nat.sub_zero]
    exact Int32.le_refl _
theorem hop_ref {b n i : Nat} (hi : 0 < i) (hin : i < n) : (if b = 0 then stn i b n - 1 else stn i b n) = hopO b n (i - 1) := by
  unfold stn hopO
  split
  · rfl
  · omega
theorem hop_ref2 {b n i : Nat} (hin : i < n - 1) : (if b = 0 then stn i b n else stn i b n - 1) = hopO b n i := by
  unfold stn hopO
  split
  · rfl
  · omega
theorem rRecv_p {R : aM} {n dl lv t b i : Nat} (ok : RowOk R n dl lv t) (hb : b < 2) (hi : 0 < i) (hin : i < n) : rRecv R (stn i b n) b = if (R.1 0 5 >>> (nI (hopO b n (i - 1)) &&& 31)) &&& 1 = 0 then (if dl = 0 then R else hTake R ((2 * hopO b n (i - 1) + b) * 32 + (t + 1) % (dl + 1) * 8)) else slBegin R := by
  obtain ⟨o1, o2, o3, o4, o5, o6, o7, o8⟩ := ok
  have hv : (if nI b = 0 then nI (stn i b n) - 1 else nI (stn i b n)) = nI (hopO b n (i - 1)) := by
    rw [← hop_ref hi hin]
    simp only [nI_b0 hb]
    by_cases hq : b = 0
    · rw [if_pos hq, if_pos hq, nI_pr]
      unfold stn
      rw [if_pos hq]
      exact hi
    · rw [if_neg hq, if_neg hq]
  have hp : hopO b n (i - 1) < n - 1 := by unfold hopO; split <;> omega
  unfold rRecv
  simp only [hv]
  rw [if_neg, nI_clamp (by omega)]
  · have e1 : R.1 0 6 + 1 - (R.1 0 6 + 1) / (R.1 0 1 + 1) * (R.1 0 1 + 1) = nI ((t + 1) % (dl + 1)) := by
      rw [o7, o3, nI_1, nI_1]
      exact nI_rem (by omega) (by omega)
    have hm : (t + 1) % (dl + 1) < dl + 1 := Nat.mod_lt _ (by omega)
    rw [e1, nI_clamp (by omega), o3, Nat.mul_comm (hopO b n (i - 1)) 2]
    by_cases hd : dl = 0
    · have : nI dl ≤ 0 := by rw [hd]; decide
      simp only [if_pos this, if_pos hd]
    · have : ¬ nI dl ≤ 0 := nI_nle (by omega) (by omega)
      simp only [if_neg this, if_neg hd]
  · rintro (q | q)
    · exact nI_pos (by omega) q
    · rw [o1, nI_pr (by omega)] at q
      exact nI_ge hp (by omega) q
theorem sR_p {P : aP} {n dl b i : Nat} (hi : 0 < i) (hin : i < n) : sR P i (stn i b n) b dl = if (P.2 1550 >>> (nI (hopO b n (i - 1)) &&& 31)) &&& 1 = 0 then (if dl = 0 then P else if dl < (P.2 (1200 + 25 * (2 * hopO b n (i - 1) + b))).toNatClampNeg then (mGetW P.1 P.2 (1200 + 25 * (2 * hopO b n (i - 1) + b)), mGetF P.2 (1200 + 25 * (2 * hopO b n (i - 1) + b)) (P.2 (1200 + 25 * (2 * hopO b n (i - 1) + b))).toNatClampNeg) else (mI P.1 0 21 0, P.2)) else (mFresh P.1, P.2) := by
  unfold sR
  simp only [hop_ref hi hin]
  rw [if_neg (show ¬ i = 0 by omega)]
theorem FrW_21 (W : aM) (v : Int32) : FrW W (mI W 0 21 v) := ⟨rfl, by simp [mI, up2], by simp [mI, up2], by simp [mI, up2]⟩
theorem FrW_get (W : aM) (f : Nat → Int32) (r : Nat) : FrW W (mGetW W f r) := ⟨rfl, by simp [mGetW, mI, up2], by simp [mGetW, mI, up2], by simp [mGetW, mI, up2]⟩
theorem hTake_I {R : aM} {o k : Nat} (h : ¬ k = 30) : (hTake R o).1 k = R.1 k := by
  unfold hTake
  rw [mA_I0, mI_o h, mI_o h, mI_o h, mI_o h, mI_o h, mI_o h, mI_o h, mI_o h, mI_o h]
theorem hTake_Ao {R : aM} {o k : Nat} (h : ¬ k = 18) : (hTake R o).2.1 k = R.2.1 k := by
  unfold hTake
  rw [mA_o h]
  rfl
def hOk (R : aM) (P : aP) (e : Se) : Prop := cS R e ∧ mS P.1 e ∧ zOk e ∧ R.1 30 0 = 1 ∧ P.1.1 0 21 = 1
theorem S_recv {R : aM} {P : aP} {n dl bal lv t B i b : Nat} {wl : Nat → List Sg} {al : List (Nat → Int32)} {lg : LgT} {LL : List (Int32 × Int32)} {τ : Nat → Nat} {Ln : Nat → List (Option Se)} {h : Option Se} (hC : Co R P n dl bal lv t B wl al lg LL) (hL : Lns R P.2 dl n τ Ln) (hi : i < n) (hb : b < 2) (hB : B + 1 < 2 ^ 31) (hτ : 0 < i → τ (2 * hopO b n (i - 1) + b) = t + 1)
    (hlen : ∀ q, q < 14 → (Ln q).length ≤ dl ∨ (0 < i ∧ q = 2 * hopO b n (i - 1) + b)) (hh : (dl = 0 ∧ 0 < i ∧ opn P.2 (hopO b n (i - 1)) ∧ ∃ e, h = some e ∧ hOk R P e) ∨ (¬ (dl = 0 ∧ 0 < i ∧ opn P.2 (hopO b n (i - 1))) ∧ h = none)) :
    ∃ Ln' x, Co (rRecv R (stn i b n) b) (sR P i (stn i b n) b dl) n dl bal lv t (B + 1) wl al lg LL ∧ Lns (rRecv R (stn i b n) b) (sR P i (stn i b n) b dl).2 dl n τ Ln' ∧ (∀ q, q < 14 → (Ln' q).length ≤ dl) ∧
      ((x = none ∧ 0 < dl ∧ (rRecv R (stn i b n) b).1 30 0 = 0 ∧ (sR P i (stn i b n) b dl).1.1 0 21 = 0) ∨ (∃ e, x = some e ∧ hOk (rRecv R (stn i b n) b) (sR P i (stn i b n) b dl) e)) ∧
      (rRecv R (stn i b n) b).1 19 = R.1 19 ∧ uS Ln' + uO x = uS Ln + uO h ∧ (sR P i (stn i b n) b dl).1.1 0 32 = P.1.1 0 32 ∧ (sR P i (stn i b n) b dl).2 1550 = P.2 1550 ∧ Still P.2 (sR P i (stn i b n) b dl).2 ∧
      ((Ln' = Ln ∧ (x = h ∨ x = none ∨ ∃ e, x = some e ∧ zN e = 0)) ∨ (h = none ∧ ∃ q L, q < 14 ∧ Ln q = x :: L ∧ Ln' = upl Ln q L)) := by
  have ok := hC.1.1
  have hdl : dl ≤ 3 := ok.2.2.2.1
  have hn8 : n ≤ 8 := ok.2.1
  have hn2 : 2 ≤ n := hC.1.2.2.2.2.2.2.1
  have hcut : R.1 0 5 = P.2 1550 := hC.1.2.2.2.2.1
  by_cases c0 : i = 0
  · subst c0
    have hn : h = none := by
      rcases hh with ⟨-, q, -⟩ | ⟨-, q⟩
      · exact absurd q (by omega)
      · exact q
    subst hn
    have e2 : sR P 0 (stn 0 b n) b dl = mBeg P b := rfl
    rw [rRecv_0 ok hn2 hb, e2]
    obtain ⟨w, w8, k1, k2, k3, k4, k5, k6, k7, k8, k9⟩ := S_head hC hb hB
    have k10 : (mBeg P b).2 1550 = P.2 1550 := by rw [← k1.1.2.2.2.2.1, ← hcut, (show (rHead R b).1 0 = R.1 0 from ?_)]; unfold rHead; split; exact slBegin_I (by decide); split; rw [mI_o (by decide)]; exact slBegin_I (R := R) (k := 0) (by decide); exact slBegin_I (R := R) (k := 0) (by decide)
    refine ⟨Ln, some (0, 0, 0, 0, 0, 0, w, 0), k1, hL.cg hdl k7 (fun j p q => ?_), fun q hq => ?_, Or.inr ⟨_, rfl, k2, k3, ⟨(show 0 < 8 by decide), (show 0 < 8 by decide), (show 0 < 2 by decide), (show 0 < 8 by decide), w8, fun _ => rfl, fun q => absurd rfl q⟩, k4, k5⟩, k6, rfl, k9, k10, ?_, Or.inl ⟨rfl, Or.inr (Or.inr ⟨_, rfl, rfl⟩)⟩⟩
    · by_cases hj : j = 1550
      · rw [hj]; exact k10
      · exact k8 j p (by omega)
    · rcases hlen q hq with r | r
      · exact r
      · exact absurd r.1 (by omega)
    · intro j hj
      unfold mBeg
      split
      · rfl
      · split <;> exact up_o (by omega)
  · have hi0 : 0 < i := by omega
    have hp : hopO b n (i - 1) < n - 1 := by unfold hopO; split <;> omega
    rw [rRecv_p ok hb hi0 hi, sR_p hi0 hi, hcut]
    have hτ' := hτ hi0
    generalize hopO b n (i - 1) = p at *
    by_cases c1 : (P.2 1550 >>> (nI p &&& 31)) &&& 1 = 0
    · rw [if_pos c1, if_pos c1]
      by_cases c2 : dl = 0
      · rw [if_pos c2, if_pos c2]
        rcases hh with ⟨-, -, -, e, g1, g2⟩ | ⟨g1, -⟩
        · refine ⟨Ln, h, hC.mono (by omega), hL, fun q hq => ?_, Or.inr ⟨e, g1, g2⟩, rfl, rfl, rfl, rfl, fun _ _ => rfl, Or.inl ⟨rfl, Or.inl rfl⟩⟩
          have := hL.2 (q / 2) (q % 2) (by omega) (by omega) (Or.inr (Or.inl c2))
          rw [show 2 * (q / 2) + q % 2 = q by omega] at this
          rw [this]
          exact Nat.zero_le _
        · exact absurd ⟨c2, hi0, c1⟩ g1
      · rw [if_neg c2, if_neg c2]
        have hn : h = none := by
          rcases hh with ⟨q, -⟩ | ⟨-, q⟩
          · exact absurd q c2
          · exact q
        subst hn
        have hq14 : 2 * p + b < 14 := by omega
        have hlane := hL.1 _ hq14
        rw [hτ'] at hlane
        have hcl : (P.2 (1200 + 25 * (2 * p + b))).toNatClampNeg = (Ln (2 * p + b)).length := by
          rw [hlane.1]; exact nI_clamp (by have := hlane.2.1; omega)
        rw [hcl]
        have hlen' : ∀ q, q < 14 → ¬ q = 2 * p + b → (Ln q).length ≤ dl := fun q hq hne => (hlen q hq).elim id (fun r => absurd r.2 hne)
        have hoth : ∀ q, q < 14 → ¬ q = 2 * p + b → ∀ i, i < 32 → (hTake R ((2 * p + b) * 32 + (t + 1) % (dl + 1) * 8)).2.1 18 (q * 32 + i) = R.2.1 18 (q * 32 + i) := by
          intro q hq hne i hi
          have hm : (t + 1) % (dl + 1) < dl + 1 := Nat.mod_lt _ (by omega)
          rw [hTake_A, up_o (by omega)]
        by_cases c3 : dl < (Ln (2 * p + b)).length
        · rw [if_pos c3]
          cases hlq : Ln (2 * p + b) with
          | nil => rw [hlq] at c3; exact absurd c3 (by simp)
          | cons x L =>
            rw [hlq] at hlane c3
            have hl1 : (x :: L).length = dl + 1 := by have := hlane.2.1; omega
            have hl2 : L.length = dl := by rw [List.length_cons] at hl1; omega
            rw [hl1]
            obtain ⟨g1, g2⟩ := Lane_get (W := P.1) hlane hdl hl2 rfl
            refine ⟨upl Ln (2 * p + b) L, x, hC.sl (by omega) (fun k hk => hTake_I hk) (fun k hk => hTake_Ao hk) (fun j hj => mGetF_o (by omega) (by omega)) (FrW_get _ _ _), ⟨fun q hq => ?_, fun p' b' hp' hb' ho => ?_⟩, fun q hq => ?_, ?_, hTake_I (by decide), ?_, (FrW_get _ _ _).2.2.2, ?_, fun j hj => mGetF_o (by omega) (by omega), Or.inr ⟨rfl, _, L, hq14, hlq, rfl⟩⟩
            · by_cases hne : q = 2 * p + b
              · rw [hne, upl_s, hτ']; exact g1
              · rw [upl_o hne]
                exact (hL.1 q hq).cg hdl (hoth q hq hne) (fun i hi => mGetF_o (by omega) (by omega))
            · have ho' : n - 1 ≤ p' ∨ dl = 0 ∨ ¬ opn P.2 p' := by
                unfold opn at ho ⊢
                have h50 : mGetF P.2 (1200 + 25 * (2 * p + b)) (dl + 1) 1550 = P.2 1550 := mGetF_o (by omega) (by omega)
                rw [← h50]
                exact ho
              have h1 := hL.2 p' b' hp' hb' ho'
              by_cases hne : 2 * p' + b' = 2 * p + b
              · exact absurd (hne ▸ h1) (by rw [hlq]; simp)
              · rw [upl_o hne]; exact h1
            · by_cases hne : q = 2 * p + b
              · rw [hne, upl_s]; omega
              · rw [upl_o hne]; exact hlen' q hq hne
            · rcases g2 with ⟨e, k1, k2, k3, k4, k5, k6⟩ | ⟨k1, k2, k3⟩
              · exact Or.inr ⟨e, k1, k3, k4, k2, k5, k6⟩
              · exact Or.inl ⟨k1, by omega, k2, k3⟩
            · have := uS_upl (Ln := Ln) (L := L) hq14
              rw [hlq, uL_cons] at this
              show _ = uS Ln + 0
              omega
            · exact mGetF_o (by omega) (by omega)
        · rw [if_neg c3]
          obtain ⟨g1, g2⟩ := Lane_no hlane hdl (by omega) rfl
          refine ⟨Ln, none, hC.sl (by omega) (fun k hk => hTake_I hk) (fun k hk => hTake_Ao hk) (fun _ _ => rfl) (FrW_21 _ _), ⟨fun q hq => ?_, hL.2⟩, fun q hq => ?_, Or.inl ⟨rfl, by omega, g2, by simp [mI, up2]⟩, hTake_I (by decide), rfl, (FrW_21 _ _).2.2.2, rfl, fun _ _ => rfl, Or.inl ⟨rfl, Or.inl rfl⟩⟩
          · by_cases hne : q = 2 * p + b
            · rw [hne, hτ']; exact g1
            · exact (hL.1 q hq).cg hdl (hoth q hq hne) (fun _ _ => rfl)
          · by_cases hne : q = 2 * p + b
            · rw [hne]; omega
            · exact hlen' q hq hne
    · rw [if_neg c1, if_neg c1]
      have hn : h = none := by
        rcases hh with ⟨-, -, q, -⟩ | ⟨-, q⟩
        · exact absurd q c1
        · exact q
      subst hn
      obtain ⟨f1, f2, f3, f4, f5⟩ := S_fresh hC
      refine ⟨Ln, some z00, f1.mono (by omega), hL.cg hdl rfl (fun _ _ _ => rfl), fun q hq => ?_, Or.inr ⟨z00, rfl, f2, f3, ⟨(show 0 < 8 by decide), (show 0 < 8 by decide), (show 0 < 2 by decide), (show 0 < 8 by decide), (show 0 ≤ 8 by decide), fun _ => rfl, fun q => absurd rfl q⟩, f4, f5⟩, slBegin_I (by decide), rfl, (FrW_fresh _).2.2.2, rfl, fun _ _ => rfl, Or.inl ⟨rfl, Or.inr (Or.inr ⟨z00, rfl, rfl⟩)⟩⟩
      rcases hlen q hq with r | r
      · exact r
      · have := hL.2 p b (by omega) hb (Or.inr (Or.inr c1))
        rw [r.2, this]
        exact Nat.zero_le _
