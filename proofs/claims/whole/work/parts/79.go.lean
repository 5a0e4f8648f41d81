/-! WHAT TICKS LEAVE AS IT WAS IN THE REFERENCE; many ticks, both alike -/
def gA (j : Nat) : Prop := (21 ≤ j ∧ j ≤ 28) ∨ j = 31 ∨ j = 32 ∨ j = 33
def FrG (W W' : aM) : Prop := (∀ k j, ¬ (k = 0 ∧ gA j) → W'.1 k j = W.1 k j) ∧ (∀ k, ¬ k = 12 → ¬ k = 13 → W'.2.1 k = W.2.1 k) ∧ W'.2.2 = W.2.2
theorem FrG.rf (W : aM) : FrG W W := ⟨fun _ _ _ => rfl, fun _ _ _ => rfl, rfl⟩
theorem FrG.tr {A B C : aM} (h1 : FrG A B) (h2 : FrG B C) : FrG A C := ⟨fun k j q => (h2.1 k j q).trans (h1.1 k j q), fun k p q => (h2.2.1 k p q).trans (h1.2.1 k p q), h2.2.2.trans h1.2.2⟩
theorem FrG_I (W : aM) {j : Nat} (v : Int32) (h : gA j) : FrG W (mI W 0 j v) := by
  refine ⟨fun k i q => ?_, fun _ _ _ => rfl, rfl⟩
  show up2 W.1 0 j v k i = W.1 k i
  unfold up2
  exact if_neg (fun (z : k = 0 ∧ i = j) => q ⟨z.1, z.2 ▸ h⟩)
theorem FrG_A (W : aM) {k j : Nat} (v : Int32) (h : k = 12 ∨ k = 13) : FrG W (mA W k j v) := ⟨fun _ _ _ => rfl, fun i p q => mA_o (by omega), rfl⟩
theorem mArr_G (P : aP) (s : Nat) : FrG P.1 (mArr P s).1 := (((FrG_I P.1 _ (by unfold gA; omega)).tr (FrG_A _ _ (Or.inl rfl))).tr (FrG_A _ _ (Or.inr rfl))).tr (FrG_I _ _ (by unfold gA; omega))
theorem vA_G (P : aP) (s : Nat) : FrG P.1 (vA P s).1 := by
  unfold vA
  split
  · exact FrG.rf _
  · exact mArr_G P s
theorem vE_G (P : aP) (s : Nat) : FrG P.1 (vE P s).1 := by
  unfold vE
  split
  · exact FrG.rf _
  · exact (FrG_I P.1 _ (by unfold gA; omega)).tr (FrG_I _ _ (by unfold gA; omega))
theorem mLdW_G (W : aM) (f : Nat → Int32) (s k : Nat) : FrG W (mLdW W f s k) := ((((FrG_I W _ (by unfold gA; omega)).tr (FrG_I _ _ (by unfold gA; omega))).tr (FrG_I _ _ (by unfold gA; omega))).tr (FrG_I _ _ (by unfold gA; omega))).tr (FrG_I _ _ (by unfold gA; omega))
theorem vF_G (P : aP) (s b lv : Nat) : FrG P.1 (vF P s b lv).1 := by
  unfold vF
  split
  · exact FrG.rf _
  · split
    · exact FrG.rf _
    · exact mLdW_G _ _ _ _
theorem mOwn_G (P : aP) (s b lv : Nat) : FrG P.1 (mOwn P s b lv).1 := by
  unfold mOwn
  split
  · split
    · exact FrG_I _ _ (by unfold gA; omega)
    · exact (FrG_I P.1 0 (by unfold gA; omega)).tr (mLdW_G _ _ _ _)
  · exact FrG_I _ _ (by unfold gA; omega)
theorem vO_G (P : aP) (s b lv : Nat) : FrG P.1 (vO P s b lv).1 := by
  unfold vO
  split
  · exact mOwn_G P s b lv
  · exact FrG.rf _
theorem vH_G (P : aP) (s b lv : Nat) : FrG P.1 (vH P s b lv).1 := FrG_I _ _ (by unfold gA; omega)
theorem mVis_G (P : aP) (s b lv : Nat) : FrG P.1 (mVis P s b lv).1 := ((((vA_G P s).tr (vE_G _ s)).tr (vF_G _ s b lv)).tr (vO_G _ s b lv)).tr (vH_G _ s _ lv)
theorem mFresh_G (W : aM) : FrG W (mFresh W) := ((((FrG_I W _ (by unfold gA; omega)).tr (FrG_I _ _ (by unfold gA; omega))).tr (FrG_I _ _ (by unfold gA; omega))).tr (FrG_I _ _ (by unfold gA; omega))).tr (FrG_I _ _ (by unfold gA; omega))
theorem mGetW_G (W : aM) (f : Nat → Int32) (r : Nat) : FrG W (mGetW W f r) := (((((((FrG_I W _ (by unfold gA; omega)).tr (FrG_I _ _ (by unfold gA; omega))).tr (FrG_I _ _ (by unfold gA; omega))).tr (FrG_I _ _ (by unfold gA; omega))).tr (FrG_I _ _ (by unfold gA; omega))).tr (FrG_I _ _ (by unfold gA; omega))).tr (FrG_I _ _ (by unfold gA; omega))).tr (FrG_I _ _ (by unfold gA; omega))
theorem mBeg_G (P : aP) (b : Nat) : FrG P.1 (mBeg P b).1 := by
  unfold mBeg
  split
  · exact mFresh_G _
  · split
    · exact (mFresh_G P.1).tr (FrG_I _ _ (by unfold gA; omega))
    · exact mFresh_G _
theorem sR_G (P : aP) (i s b dl : Nat) : FrG P.1 (sR P i s b dl).1 := by
  unfold sR
  generalize (if b = 0 then s - 1 else s) = p
  simp only
  split
  · exact mBeg_G P b
  · split
    · split
      · exact FrG.rf _
      · split
        · exact mGetW_G _ _ _
        · exact FrG_I _ _ (by unfold gA; omega)
    · exact mFresh_G _
theorem sV_G (P : aP) (s b lv : Nat) : FrG P.1 (sV P s b lv).1 := by
  unfold sV
  split
  · exact FrG.rf _
  · exact mVis_G P s b lv
theorem sS_G (P : aP) (i s b n dl : Nat) : FrG P.1 (sS P i s b n dl).1 := by
  unfold sS
  generalize (if b = 0 then s else s - 1) = p
  simp only
  split
  · exact FrG_I _ _ (by unfold gA; omega)
  · split <;> exact FrG.rf _
theorem mStn_G (P : aP) (i b n dl lv : Nat) : FrG P.1 (mStn P i b n dl lv).1 := ((sR_G P _ _ _ _).tr (sV_G _ _ _ _)).tr (sS_G _ _ _ _ _ _)
theorem mBy_G {b n dl lv : Nat} : ∀ (m i : Nat) (P : aP), FrG P.1 (mBy b n dl lv m i P).1
  | 0, _, _ => FrG.rf _
  | m + 1, i, P => (mStn_G P i b n dl lv).tr (mBy_G m (i + 1) _)
theorem mTick_G (P : aP) (n dl lv : Nat) : FrG P.1 (mTick P n dl lv).1 := by
  unfold mTick
  simp only
  exact ((((FrG_I P.1 _ (by unfold gA; omega)).tr (FrG_I _ _ (by unfold gA; omega))).tr (mBy_G n 0 (mI (mI P.1 0 32 (P.1.1 0 32 + 1)) 0 21 0, P.2))).tr (FrG_I _ _ (by unfold gA; omega))).tr (mBy_G n 0 (_, _))
theorem mGo_G {n dl lv : Nat} : ∀ (k : Nat) (P : aP), FrG P.1 (mGo n dl lv k P).1
  | 0, _ => FrG.rf _
  | k + 1, P => (mTick_G P n dl lv).tr (mGo_G k _)
theorem cW.g {W W' : aM} {n dl bal lv : Nat} (h : cW W n dl bal lv) (h1 : FrG W W') : cW W' n dl bal lv := by
  unfold cW at h ⊢
  rw [h1.1 0 12 (by unfold gA; omega), h1.2.1 3 (by decide) (by decide)]
  exact h
/-- what landed in each tick, and when -/
def lnd (tk : Int32) : List (List (Nat → Int32)) → List (Int32 × Int32)
  | [] => []
  | nw :: r => nw.map (fun x => (x 0, tk + 1)) ++ lnd (tk + 1) r
theorem lnd_len : ∀ (nws : List (List (Nat → Int32))) (tk : Int32), (lnd tk nws).length = nws.flatten.length
  | [], _ => rfl
  | nw :: r, tk => by
    show (nw.map _ ++ lnd (tk + 1) r).length = (nw ++ r.flatten).length
    rw [List.length_append, List.length_append, List.length_map, lnd_len r]
set_option maxRecDepth 100000 in
theorem S_go {n dl bal lv : Nat} {lg : LgT} : ∀ (k : Nat) (R : aM) (P : aP) (t B : Nat) (wl : Nat → List Sg) (al : List (Nat → Int32)) (LL : List (Int32 × Int32)) (Ln : Nat → List (Option Se)), TI R P n dl bal lv t B wl al lg LL Ln → t + k ≤ 10000 → B + 400 * k < 2 ^ 31 → LL.length + 16 * k ≤ 3300 →
    CGoOk n dl lv k R ∧ GoOk n dl lv k P ∧ ∃ nws wl' Ln', nws.length = k ∧ (∀ nw, nw ∈ nws → nw.length ≤ 16) ∧ TI (rGo n lv k R) (mGo n dl lv k P) n dl bal lv (t + k) (B + 400 * k) wl' (nws.flatten.foldl RgA_p al) lg (LL ++ lnd (P.1.1 0 32) nws) Ln' ∧
      (rGo n lv k R).1 19 1 = R.1 19 1 + nI nws.flatten.length ∧ (∀ p, ca p nws.flatten + LV p wl' Ln' none ≤ LV p wl Ln none) ∧ (LV tt wl Ln none = 0 → Still P.2 (mGo n dl lv k P).2)
  | 0, R, P, t, B, wl, al, LL, Ln, h, _, _, _ => ⟨trivial, trivial, [], wl, Ln, rfl, fun _ hq => (by cases hq), by show TI R P n dl bal lv t B wl al lg (LL ++ []) Ln; rw [List.append_nil]; exact h, (Int32.add_zero _).symm, fun p => (by show 0 + _ ≤ _; omega), fun _ _ _ => rfl⟩
  | k + 1, R, P, t, B, wl, al, LL, Ln, h, ht, hB, hLL => by
    obtain ⟨c1, c2, nw, wl1, Ln1, k1, k2, k3, k4, k5, k6, k7⟩ := S_tick h (by omega) (by omega) (by omega)
    obtain ⟨d1, d2, nws, wl2, Ln2, j1, j2, j3, j4, j5, j6⟩ := S_go k _ _ (t + 1) (B + 400) wl1 _ _ Ln1 k1 (by omega) (by omega) (by rw [List.length_append, List.length_map]; omega)
    refine ⟨⟨c1, d1⟩, ⟨c2, d2⟩, nw :: nws, wl2, Ln2, by rw [List.length_cons, j1], fun z hz => ?_, ?_, ?_, fun p => ?_, fun q0 => ?_⟩
    · rcases List.mem_cons.mp hz with q | q
      · rw [q]; exact k3
      · exact j2 z q
    · rw [k4] at j3
      rw [List.flatten_cons, foldl_app, show t + (k + 1) = t + 1 + k by omega, show B + 400 * (k + 1) = B + 400 + 400 * k by omega]
      show TI (rGo n lv k (rTick R n lv)) (mGo n dl lv k (mTick P n dl lv)) n dl bal lv (t + 1 + k) (B + 400 + 400 * k) wl2 _ lg (LL ++ (nw.map (fun x => (x 0, P.1.1 0 32 + 1)) ++ lnd (P.1.1 0 32 + 1) nws)) Ln2
      rw [← List.append_assoc]
      exact j3
    · show (rGo n lv k (rTick R n lv)).1 19 1 = _
      rw [j4, k2, List.flatten_cons, List.length_append, ← nI_add, Int32.add_assoc]
    · have a1 := k6 p
      have a2 := j5 p
      rw [List.flatten_cons, ca_app]
      omega
    · have a1 := k6 tt
      exact (k7 q0).tr (j6 (by omega))
