/-! AN ACT, both alike, with all that it touches -/
theorem mRem_18 {W : aM} {f : Nat → Int32} {c st : Nat} (h : W.1 0 18 = nI st) : (mRem W f c st).1 0 18 = nI (kS c st) := by
  unfold mRem kS
  rw [mR_I]
  by_cases q : c = 40
  · simp only [if_pos q]; rw [mI_At, if_pos rfl]
  · simp only [if_neg q]; rw [mI_At, if_neg (by decide), h]
theorem mRem_19 {W : aM} {f : Nat → Int32} {c st : Nat} (h : W.1 0 19 = nI c) : (mRem W f c st).1 0 19 = nI (kC c) := by
  unfold mRem kC
  rw [mR_I]
  by_cases q : c = 40
  · simp only [if_pos q]; rw [mI_At, if_neg (by decide), h, q]
  · simp only [if_neg q]; rw [mI_At, if_pos rfl]
theorem mRem_11 (W : aM) (f : Nat → Int32) (c st : Nat) : (mRem W f c st).2.1 11 = cpF f (W.2.1 11) 0 (1922 * kI c st) 1922 := by
  unfold mRem kI
  rw [mR_s]
/-- the class's object, its row, what it kept; the reference's row and what it kept -/
def Bg (sh : List sE) (M : aM) (W : aM) (f : Nat → Int32) (s tp sr a p o dr rf kk z : Nat) (F : Nat → Option Nat) (n dl bal lv t B c st st2 : Nat) (wl : Nat → List Sg) (al l : List (Nat → Int32)) (Ln : Nat → List (Option Se)) : Prop :=
  (BusSh sh s tp sr a p o dr rf kk) ∧
  (RowSh sh a) ∧
  (PastSh sh p F) ∧
  (Geo sh M F z) ∧
  (z ≤ 32 + sh.length) ∧
  (a + 31 ≤ z) ∧
  (p + 2 ≤ z) ∧
  (s < z) ∧
  (p < a ∨ a + 31 ≤ p) ∧
  (s < a ∨ a + 31 ≤ s) ∧
  (¬ s = p) ∧
  (c ≤ 40) ∧
  (st < 40) ∧
  (st2 < 40) ∧
  (M.1 p 1 = nI c) ∧
  (M.1 p 2 = nI st) ∧
  (RI (lc M a) f n dl bal lv t B wl al (f, l, f) Ln) ∧
  (t ≤ 9999) ∧
  (KpR M F (W.2.1 11) st st2 c n dl bal lv B) ∧
  (cW W n dl bal lv) ∧
  (W.1 0 19 = nI c) ∧
  (W.1 0 18 = nI st2)
section
variable {sc sc2 : aS} {d d2 : Nat} {sh sh2 : List sE} {M M2 W : aM} {s tp sr a p o dr rf kk z a2 : Nat} {F : Nat → Option Nat} {f : Nat → Int32} {n dl bal lv t B c st st2 : Nat} {wl : Nat → List Sg} {al l : List (Nat → Int32)} {Ln : Nat → List (Option Se)}
theorem S_acts (h : Bg sh M W f s tp sr a p o dr rf kk z F n dl bal lv t B c st st2 wl al l Ln) (hS2 : ModSh sh2 a2) {k : Nat} {x y v m y' v' m' : Int32} (hy : AgS k y v m y' v' m') (hk : k ≤ 6) (hB : B + 25000 < 2 ^ 31) (hf : stF n lv t (f 1550) wl ((lc M a).2.1 2) ((lc M a).2.1 1) k x y v m = -1) :
    ∃ sh' M' F' f2 W2 ans t1 wl1 al1 l1 Ln1, evp sc (d + 7) 145 0 [(0, .ref s), (1, .int (nI k)), (2, .int x), (3, .int y), (4, .int v), (5, .int m)] [] (mk sh M) = some (some (.int ans), mk sh' M') ∧
      evp sc2 (d2 + 11) 240 0 [(0, .ref a2), (1, .int (nI k)), (2, .int x), (3, .int y'), (4, .int v'), (5, .int m')] [] (mk sh2 (gl M2 a2 15 (mR W 8 f))) = some (some (.int (-1)), mk sh2 (gl M2 a2 15 (mR W2 8 f2))) ∧ W2.1 0 33 = ans ∧
      FrG (mRem W f c st2) W2 ∧ M'.1 s 9 = -1 ∧ sh.length ≤ sh'.length ∧ ShX sh sh' p ∧ (∀ x, x < z → (x < a ∨ a + 31 ≤ x) → (¬ x = p → ¬ x = s → M'.1 x = M.1 x) ∧ (∀ j, x = s → ¬ j = 9 → M'.1 x j = M.1 x j) ∧ M'.2.1 x = M.2.1 x) ∧ M'.2.2 = M.2.2 ∧ (∀ x, z ≤ x → x < 32 + sh.length → (∀ i b, i < 40 → F i = some b → x < b ∨ b + 31 ≤ x) → M'.1 x = M.1 x ∧ M'.2.1 x = M.2.1 x) ∧ (∀ i b, i < 40 → F' i = some b → F i = some b ∨ 32 + sh.length ≤ b) ∧ GrK sh F sh' F' ∧
      Bg sh' M' W2 f2 s tp sr a p o dr rf kk z F' n dl bal lv t1 (B + 25000) (kC c) (kS c st) (kS c st2) wl1 al1 l1 Ln1 := by
  obtain ⟨b1, b2, b3, b4, b5, b6, b7, b8, b9, b10, b11, b12, b13, b14, b15, b16, b17, b18, b19, b20, b21, b22⟩ := h
  have t0 := R_refusal (sc := sc) (d := d + 2) (M := M) (R := lc M a) (x := x) (y := y) (v := v) (m := m) b2 b17 hk
  rw [hf, gl_lc] at t0
  have sF : ∀ i b, i < 40 → F i = some b → Sm M (mI M s 9 (-1)) b 31 := fun i b hi hb => Sm_I (by have := (b4.1 i b hi hb).1; omega)
  obtain ⟨sh', M', F', k1, k2, k3, k4, k5, k6, k7, k8, k9, k10, k11, k12, k13⟩ := S_keep (sc := sc) (d := d + 3) b3 b2 (b4.sm sF) b5 b6 b7 b9 b12 b13 b14 (by rw [mI_o (fun q => b11 q.symm)]; exact b15) (by rw [mI_o (fun q => b11 q.symm)]; exact b16) (b17.sm (Sm_I b10)) b18 (b19.sm (Nat.le_refl _) sF)
  have hrow : RowSh sh' a := k5.row b3.2 b2
  have smA : Sm M M' a 31 := fun y q1 q2 => by
    obtain ⟨r1, r2⟩ := k6 y (by omega)
    exact ⟨(r1 (by omega)).trans (mI_o (by omega)), r2⟩
  have hf' : stF n lv t (f 1550) wl ((lc M' a).2.1 2) ((lc M' a).2.1 1) k x y v m = -1 := by
    rw [smA.lc2 2 (by decide), smA.lc2 1 (by decide)]
    exact hf
  obtain ⟨R2, f2, W2, ans, t1, wl1, al1, l1, Ln1, q1, q2, q33, q3, q4, q5, q6⟩ := S_act (sc := sc) (sc2 := sc2) (d := d) (d2 := d2) (M := M') (M2 := M2) (R := lc M' a) hrow hS2 hy hk (b17.sm smA) b20 b18 hB b12 b14 b21 b22 hf'
  rw [gl_lc] at q1
  have sG : ∀ i b, i < 40 → F' i = some b → Sm M' (gl M' a 31 R2) b 31 := fun i b hi hb => Sm_gl (by have := (k3.1 i b hi hb).1; omega)
  have hpI : ∀ j, (gl M' a 31 R2).1 p j = M'.1 p j := fun j => gl_Io (by omega)
  have hs9 : ∀ j, (gl M' a 31 R2).1 s j = (mI M s 9 (-1)).1 s j := fun j => by
    rw [gl_Io (by omega), (k6 s b8).1 b11]
  have hsb := k5.bus b3.2 b1
  have e11 : W2.2.1 11 = cpF f (W.2.1 11) 0 (1922 * kI c st2) 1922 := by
    rw [q3.2.1 11 (by decide) (by decide), mRem_11]
  refine ⟨sh', gl M' a 31 R2, F', f2, W2, ans, t1, wl1, al1, l1, Ln1, A_yes b1 b2 b3 hsb hrow t0 k1 q1, q2, q33, q3, ?_, k4, k5, fun x hx hxa => ⟨fun e1 e2 => ?_, fun j e1 e2 => ?_, ?_⟩, k7, fun x h1 h2 h3 => ?_, k12, k13, ⟨hsb, hrow, k2, k3.sm sG, by omega, b6, b7, b8, b9, b10, b11, kC_le b12, kS_lt b13, kS_lt b14, ?_, ?_, q6.put, q5, ?_, ?_, ?_, ?_⟩⟩
  · rw [hs9, mI_At, if_pos rfl]
  · have e : (gl M' a 31 R2).1 x = M'.1 x := funext (fun j => gl_Io (by omega))
    rw [e, (k6 x hx).1 e1, mI_o e2]
  · subst e1
    rw [hs9, mI_At, if_neg e2]
  · rw [gl_Ao (by omega), (k6 x hx).2]
    rfl
  · have e1 : (gl M' a 31 R2).1 x = M'.1 x := funext (fun j => gl_Io (by omega))
    have e2 := k11 x h1 h2 h3
    exact ⟨e1.trans (e2.1.trans (mI_o (by omega))), (gl_Ao (by omega)).trans e2.2⟩
  · rw [hpI]; exact k8
  · rw [hpI]; exact k9
  · rw [e11]; exact k10.sm (by omega) sG
  · exact (b20.rem).g q3
  · rw [q3.1 0 19 (by unfold gA; omega)]
    exact mRem_19 b21
  · rw [q3.1 0 18 (by unfold gA; omega)]
    exact mRem_18 b22
end
