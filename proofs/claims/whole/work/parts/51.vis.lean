/-! A VISIT, once the slot is there -/
def Prov (s : Nat) (wl wl' : Nat → List Sg) (e e' : Se) (nw : List (Nat → Int32)) : Prop := ∃ e1 : Se, ((nw = [] ∧ (e1 = e ∨ (zN e1 = 0 ∧ ur e = 0))) ∨ (∃ x, nw = [x] ∧ ur e = 1 ∧ ur e1 = 0 ∧ x 0 = zN e ∧ x 1 = nI (zF e) ∧ x 2 = nI (zT e) ∧ x 4 = zL e)) ∧ ((wl' = wl ∧ zN e' = zN e1 ∧ zF e' = zF e1 ∧ zT e' = zT e1 ∧ zR e' = zR e1 ∧ zL e' = zL e1) ∨ (zN e1 = 0 ∧ ∃ l1 x l2, wl s = l1 ++ x :: l2 ∧ wl' = upl wl s (l1 ++ l2) ∧ zN e' = x.1 ∧ zF e' = s ∧ zT e' = x.2.1 ∧ zR e' = 0 ∧ zL e' = nI x.2.2.1))
theorem Co.mono {R : aM} {P : aP} {n dl bal lv t B B' : Nat} {wl : Nat → List Sg} {al : List (Nat → Int32)} {lg : LgT} {LL : List (Int32 × Int32)} (h : Co R P n dl bal lv t B wl al lg LL) (hB : B ≤ B') : Co R P n dl bal lv t B' wl al lg LL := h.sl hB (fun _ _ => rfl) (fun _ _ => rfl) (fun _ _ => rfl) (FrW.rf _)
def rIn (R : aM) (s b lv : Nat) : aM := rAsks ((s * 2 + (1 - b)) * 3) lv (rFl (rReadAt R s) s b lv)
theorem S_vis {R : aM} {P : aP} {n dl bal lv t B s b U : Nat} {wl : Nat → List Sg} {al : List (Nat → Int32)} {lg : LgT} {LL : List (Int32 × Int32)} {e : Se} (h : Co R P n dl bal lv t B wl al lg LL) (hs : s < 8) (hb : b < 2) (hB : B + 22 < 2 ^ 31) (hc : cS R e) (hm : mS P.1 e) (hz : zOk e) (hU : R.1 19 4 = nI U) (hUe : ur e ≤ U) (hLL : LL.length < 3300) :
    ∃ nw wl' e' U', Co (rIn R s b lv) (mVis P s b lv) n dl bal lv t (B + 22) wl' (nw.foldl RgA_p al) lg (LL ++ nw.map (fun x => (x 0, P.1.1 0 32))) ∧ cS (rIn R s b lv) e' ∧ mS (mVis P s b lv).1 e' ∧ zOk e' ∧ (rIn R s b lv).1 19 4 = nI U' ∧ U' + ur e = U + ur e' ∧ FrS R (rIn R s b lv) P (mVis P s b lv) ∧ (rIn R s b lv).1 19 1 = R.1 19 1 + nI nw.length ∧ nw.length ≤ 1 ∧ Prov s wl wl' e e' nw ∧ (wl s = [] → Still P.2 (mVis P s b lv).2) := by
  obtain ⟨nw, e1, U1, r1, r2, r3, r4, r5, r6, r7, r8, r9, r10, r12, r11⟩ := S_read h hs hc hm hz hU hUe hLL
  obtain ⟨wl', e2, U2, f1, f2, f3, f4, f5, f6, f7, f8⟩ := S_fill r1 hs hb (by omega) r2 r3 r4 r5
  unfold rIn mVis vH
  generalize hP2 : vO (vF (vE (vA P s) s) s b lv) s b lv = P2 at f1 f3 f7 f8 ⊢
  have h191 : (rFl (rReadAt R s) s b lv).1 19 1 = (rReadAt R s).1 19 1 := by
    rw [f1.2.2.1.2.1, r1.2.2.1.2.1]
    have : P2.2 1554 = (vE (vA P s) s).2 1554 := by
      rw [← hP2]
      have hv : ∀ (Q : aP), mS Q.1 e1 → Co (rReadAt R s) Q n dl bal lv t B wl (nw.foldl RgA_p al) lg (LL ++ nw.map (fun x => (x 0, P.1.1 0 32))) → (vO (vF Q s b lv) s b lv).2 1554 = Q.2 1554 := by
        intro Q _ hQ
        have hw := hQ.2.2.2.2.2.1.2.1 s hs
        have hl3 : lv ≤ 3 := hQ.1.1.2.2.2.2.2.1
        have cnt : ∀ (k j : Nat) (y : Int32) (g : Nat → Int32), j + k ≤ 3 → mCounts s b y k j g 1554 = g 1554 := by
          intro k
          induction k with
          | zero => intro j y g _; rfl
          | succ k ih =>
            intro j y g hj
            show mCounts s b y k (j + 1) (mCount g s b j y) 1554 = _
            rw [ih _ _ _ (by omega), mCount_eq rfl]
            split <;> exact up_o (by omega)
        have ld : ∀ (v k : Nat), v < 3 → mLdF Q.2 s b v k (wl s).length 1554 = Q.2 1554 := by
          intro v k hv
          rw [mLdF_hi hs hb hv hw.1.2.1 (by omega), if_neg (by omega)]
        have hcl : (Q.2 s).toNatClampNeg = (wl s).length := by rw [hw.1.1]; exact nI_clamp (by have := hw.1.2.1; omega)
        have sn : ∀ (g : Nat → Int32) (y : Int32), mSnF g s b lv y 1554 = g 1554 := by
          intro g y
          unfold mSnF
          split
          · rfl
          · split
            · rw [cnt _ _ _ _ (by omega), up_o (by omega)]
            · exact up_o (by omega)
        have hF : (vF Q s b lv).2 1554 = Q.2 1554 := by
          unfold vF
          split
          · rfl
          · split
            · exact cnt _ _ _ _ (by omega)
            · rename_i hne
              simp only
              rw [sn, hcl]
              rcases mSender_spec (f := Q.2) (s := s) (b := b) lv with q | ⟨v, v1, v2, v3⟩
              · exact absurd q hne
              · rw [v2, nI_clamp (by omega)]
                exact ld _ _ (by omega)
        have hs2 : (vF Q s b lv).1.1 0 28 = nI (s + 1) → vF Q s b lv = Q := fun q => vF_s q hs
        unfold vO
        split
        · rename_i hq
          rw [hs2 hq]
          unfold mOwn
          split
          · split
            · rfl
            · rename_i hne
              simp only
              rw [hcl] at hne ⊢
              rcases mTop_spec (f := Q.2) (s := s) (b := b) (c := (wl s).length) lv with q | ⟨v, v1, v2, v3⟩
              · exact absurd q hne
              · rw [v2, nI_clamp (by omega)]
                exact ld _ _ (by omega)
          · rfl
        · exact hF
      exact hv _ r3 r1
    exact this
  have hL := f1.2.2.2.2.1
  have hQ := f1.2.2.2.2.2.1
  have hlv3 : lv ≤ 3 := f1.1.1.2.2.2.2.2.1
  obtain ⟨z1, z2, z3, z4, z5, z6, z7⟩ := f4
  obtain ⟨c1, c2, c3, c4, c5⟩ := f2
  obtain ⟨m1, m2, m3, m4, m5⟩ := f3
  obtain ⟨a', q1, q2, q3, q4, q5⟩ := S_asks (n := n) (lv := lv) (wl := wl') hs (show 1 - b < 2 by omega) lv (B + 4) (zA e2) (rFl (rReadAt R s) s b lv) P2.2 hlv3 z4 c3 hL hQ (by omega)
  rw [m3]
  have hW : FrW P2.1 (mI P2.1 0 27 (mHears s (1 - b) lv (nI (zA e2)) P2.2).1) := ⟨rfl, by simp [mI, up2], by simp [mI, up2], by simp [mI, up2]⟩
  have hu : ur (zN e2, zF e2, zT e2, zB e2, zR e2, a', zW e2, zL e2) = ur e2 := rfl
  have h19 : (rAsks ((s * 2 + (1 - b)) * 3) lv (rFl (rReadAt R s) s b lv)).1 19 = (rFl (rReadAt R s) s b lv).1 19 := q5.1 19 (by decide)
  refine ⟨nw, wl', (zN e2, zF e2, zT e2, zB e2, zR e2, a', zW e2, zL e2), U2, ?_, ⟨?_, ?_, q2, ?_, fun q => ⟨?_, ?_, ?_, ?_⟩⟩, ⟨?_, ?_, ?_, ?_, fun q => ⟨?_, ?_, ?_⟩⟩, ⟨z1, z2, z3, q1, z5, z6, z7⟩, ?_, ?_, ?_, ?_, ?_, ?_, ?_⟩
  · exact f1.frc (P' := (mI P2.1 0 27 (mHears s (1 - b) lv (nI (zA e2)) P2.2).1, (mHears s (1 - b) lv (nI (zA e2)) P2.2).2)) q5 hW (by omega) (q4.cg (by omega) (fun _ _ _ => rfl) (fun _ _ _ _ _ => rfl))
  · rw [q5.2.2.2 1 (by decide)]; exact c1
  · rw [q5.2.2.2 6 (by decide)]; exact c2
  · rw [q5.2.2.2 8 (by decide)]; exact c4
  · rw [q5.2.2.2 2 (by decide)]; exact (c5 q).1
  · rw [q5.2.2.2 3 (by decide)]; exact (c5 q).2.1
  · rw [q5.2.2.2 5 (by decide)]; exact (c5 q).2.2.1
  · rw [q5.2.2.2 4 (by decide)]; exact (c5 q).2.2.2
  · simp [mI, up2]; exact m1
  · simp [mI, up2]; exact m2
  · simp [mI, up2]; exact q3
  · simp [mI, up2]; exact m4
  · simp [mI, up2]; exact (m5 q).1
  · simp [mI, up2]; exact (m5 q).2.1
  · simp [mI, up2]; exact (m5 q).2.2
  · rw [h19]; exact f5
  · rw [hu]; omega
  · refine (r7.tr f7).tr ⟨q5.2.1 18 (by decide), fun j p q => q5.2.2.1 j (by omega), q5.2.2.2 0 (by decide), by simp [mI, up2], by simp [mI, up2]⟩
  · rw [h19, h191]; exact r8
  · rcases r11 with ⟨k, -⟩ | ⟨x, k, -⟩
    · rw [k]; decide
    · rw [k]; exact Nat.le_refl 1
  · refine ⟨e1, r11, ?_⟩
    rcases f8 with ⟨k1, -, w, k2, k3⟩ | ⟨k1, l1, x, l2, k2, k3, k4⟩
    · subst k3
      exact Or.inl ⟨k1, rfl, rfl, rfl, rfl, rfl⟩
    · subst k4
      exact Or.inr ⟨k1, l1, x, l2, k2, k3, rfl, rfl, rfl, rfl, rfl⟩
  · intro hw
    rcases f8 with ⟨-, k1, -⟩ | ⟨k1, l1, x, l2, k2, -⟩
    · exact (r12.tr k1).tr (fun j hj => q5.2.2.1 j (by omega))
    · rw [hw] at k2
      simp at k2
