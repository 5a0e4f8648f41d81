/-! QUERIES: how a call is held against the reference -/
theorem in_of {x : Int32} {n : Nat} (hn : n < 2 ^ 31) (h : ¬ (x < 0 ∨ nI n < x)) : ∃ j, j ≤ n ∧ x = nI j := by
  obtain ⟨j, j1, j2⟩ := nI_of (fun q => h (Or.inl q))
  refine ⟨j, ?_, j2⟩
  rcases Nat.lt_or_ge n j with q | q
  · exact absurd (Or.inr (by rw [j2, Int32.lt_iff_toInt_lt, nI_toInt hn, nI_toInt j1]; omega)) h
  · exact q
theorem out_ne {x : Int32} {n j : Nat} (hn : n < 2 ^ 31) (h : x < 0 ∨ nI n < x) (hj : j ≤ n) : (x = nI j) = False := eq_false (fun e => by
  rw [e] at h
  rcases h with h | h
  · exact nI_pos (by omega) h
  · rw [Int32.lt_iff_toInt_lt, nI_toInt hn, nI_toInt (by omega)] at h
    omega)
theorem out_ge {x : Int32} {n : Nat} (hn : n + 1 < 2 ^ 31) (c : nI n < x) : (nI (n + 1) ≤ x) = True ∧ (x < 0) = False := by
  rw [Int32.lt_iff_toInt_lt, nI_toInt (by omega)] at c
  refine ⟨eq_true ?_, eq_false ?_⟩
  · rw [Int32.le_iff_toInt_le, nI_toInt hn]; omega
  · rw [Int32.lt_iff_toInt_lt]; show ¬ x.toInt < 0; omega
theorem lt_out {x : Int32} (c : x < 0) {n : Nat} (hn : n < 2 ^ 31) : (nI n < x) = False ∧ (nI n ≤ x) = False := by
  rw [Int32.lt_iff_toInt_lt] at c
  have c' : x.toInt < 0 := c
  refine ⟨eq_false ?_, eq_false ?_⟩
  · rw [Int32.lt_iff_toInt_lt, nI_toInt hn]; omega
  · rw [Int32.le_iff_toInt_le, nI_toInt hn]; omega
theorem modE_arr {a k : Nat} (h1 : 1 ≤ k) (h2 : k < 15) : ∃ tc n, modE a k = .inr (.inl (tc, n)) := by
  rcases (show k = 1 ∨ k = 2 ∨ k = 3 ∨ k = 4 ∨ k = 5 ∨ k = 6 ∨ k = 7 ∨ k = 8 ∨ k = 9 ∨ k = 10 ∨ k = 11 ∨ k = 12 ∨ k = 13 ∨ k = 14 by omega) with rfl | rfl | rfl | rfl | rfl | rfl | rfl | rfl | rfl | rfl | rfl | rfl | rfl | rfl <;> exact ⟨_, _, rfl⟩
/-- two pictures of one heap stay so when the reference's memory is put in -/
theorem mk_gl_eq {sh1 sh2 : List sE} {M1 M2 W : aM} (h : mk sh1 M1 = mk sh2 M2) (h1 : ModSh sh1 111) (h2 : ModSh sh2 111) : mk sh1 (gl M1 111 15 W) = mk sh2 (gl M2 111 15 W) := by
  apply List.ext_getElem?
  intro j
  have hj : (mk sh1 M1)[j]? = (mk sh2 M2)[j]? := by rw [h]
  unfold mk at hj ⊢
  rw [mkl_get, mkl_get] at hj ⊢
  by_cases q : 79 ≤ j ∧ j < 94
  · have g : ∀ sh, ModSh sh 111 → sh[j]? = some (modE 111 (j - 79)) := fun sh hs => by
      have := hs (j - 79) (by omega)
      unfold shp at this
      rw [show Nat.blt (111 + (j - 79)) 32 = false from Bool.eq_false_iff.mpr (fun q => by have := Nat.blt_eq.mp q; omega)] at this
      simp only [cond_false] at this
      rw [show 111 + (j - 79) - 32 = j by omega] at this
      exact this
    rw [g sh1 h1, g sh2 h2] at hj ⊢
    have e1 : ∀ M : aM, (gl M 111 15 W).1 (32 + j) = W.1 (j - 79) := fun M => funext (fun i => by
      have := gl_I (M := M) (R := W) (a := 111) (n := 15) (k := j - 79) (j := i) (by omega)
      rw [show 111 + (j - 79) = 32 + j by omega] at this
      exact this)
    have e2 : ∀ M : aM, (gl M 111 15 W).2.1 (32 + j) = W.2.1 (j - 79) := fun M => by
      have := gl_A (M := M) (R := W) (a := 111) (n := 15) (k := j - 79) (by omega)
      rw [show 111 + (j - 79) = 32 + j by omega] at this
      exact this
    by_cases z : j = 79
    · subst z
      have hl : M1.2.2 111 = M2.2.2 111 := by
        have := congrArg (fun e => match e with
          | some (.inr (_, fs)) => (fs : List Value)[34]?
          | _ => none) hj
        have e : some (Value.long (M1.2.2 111)) = some (Value.long (M2.2.2 111)) := this
        exact Value.long.inj (Option.some.inj e)
      exact congrArg some (mkc_cg (M := gl M2 111 15 W) (M' := gl M1 111 15 W) ((e1 M1).trans (e1 M2).symm) hl ((e2 M1).trans (e2 M2).symm) _)
    · obtain ⟨tc, n, e⟩ := modE_arr (a := 111) (show 1 ≤ j - 79 by omega) (by omega)
      rw [e]
      show some (Sum.inl (tc, n, Sum.inl ((gl M1 111 15 W).2.1 (32 + j)))) = some (Sum.inl (tc, n, Sum.inl ((gl M2 111 15 W).2.1 (32 + j))))
      rw [e2, e2]
  · have g : ∀ (M : aM) s, mkc (32 + j) s (gl M 111 15 W) = mkc (32 + j) s M := fun M s => mkc_cg (M := M) (M' := gl M 111 15 W) (funext (fun i => gl_Io (by omega))) rfl (gl_Ao (by omega)) s
    simp only [g]
    exact hj
def QA (sc : aS) (d mc mr : Nat) (L : aL) (sh : List sE) (M W : aM) (sh2 : List sE) (M2 : aM) : Prop := ∃ ans M1 W', evp sc d mc 0 ((0, .ref 32) :: L) [] (mk sh M) = some (some (.int ans), mk sh M1) ∧ evp sc d mr 0 ((0, .ref 111) :: L) [] (mk sh2 (gl M2 111 15 W)) = some (some (.int ans), mk sh2 (gl M2 111 15 W')) ∧ FrX M M1 ∧ Sm M M1 111 15 ∧ FrY W W'
theorem QA_of {sc : aS} {d mc mr : Nat} {L : aL} {sh sh2 : List sE} {M W M2 : aM} {ans : Int32} (h1 : evp sc d mc 0 ((0, .ref 32) :: L) [] (mk sh M) = some (some (.int ans), mk sh M)) (h2 : evp sc d mr 0 ((0, .ref 111) :: L) [] (mk sh2 (gl M2 111 15 W)) = some (some (.int ans), mk sh2 (gl M2 111 15 (mI W 0 0 0)))) : QA sc d mc mr L sh M W sh2 M2 := ⟨ans, M, mI W 0 0 0, h1, h2, FrX.rf M, Sm.rf _ _ _, FrY_thr W 0⟩
/-- a call: whatever the state, both answer alike, and it is such a state again -/
def Cal (sc : aS) (d mc mr : Nat) (L : aL) : Prop := ∀ sh M B, IV sh M B → B + 1000000 < 2 ^ 31 → ∃ ans sh' M1 M', evp sc d mc 0 ((0, .ref 32) :: L) [] (mk sh M) = some (some (.int ans), mk sh' M1) ∧ evp sc d mr 0 ((0, .ref 111) :: L) [] (mk sh' M1) = some (some (.int ans), mk sh' M') ∧ IV sh' M' (B + 1000000)
theorem Cal_two {sc : aS} {d mc mr : Nat} {L : aL} {sh : List sE} {M : aM} {B' : Nat} (hM : ModSh sh 111) (H : ∀ sh2 M2, ModSh sh2 111 → ∃ ans sh' M1 W', evp sc d mc 0 ((0, .ref 32) :: L) [] (mk sh M) = some (some (.int ans), mk sh' M1) ∧ evp sc d mr 0 ((0, .ref 111) :: L) [] (mk sh2 (gl M2 111 15 (lc M 111))) = some (some (.int ans), mk sh2 (gl M2 111 15 W')) ∧ Sm M M1 111 15 ∧ IP sh' M1 W' B') : ∃ ans sh' M1 M', evp sc d mc 0 ((0, .ref 32) :: L) [] (mk sh M) = some (some (.int ans), mk sh' M1) ∧ evp sc d mr 0 ((0, .ref 111) :: L) [] (mk sh' M1) = some (some (.int ans), mk sh' M') ∧ IV sh' M' B' := by
  obtain ⟨ans0, sh0, M0, W0, e1, e2, e3, e4⟩ := H sh M hM
  obtain ⟨ans, sh', M1, W', f1, f2, f3, f4⟩ := H sh0 M0 e4.mod
  have e := e1.symm.trans f1
  have eh : mk sh0 M0 = mk sh' M1 := (Prod.mk.inj (Option.some.inj e)).2
  rw [gl_same e3, mk_gl_eq eh e4.mod f4.mod, eh] at f2
  exact ⟨ans, sh', M1, _, f1, f2, f4.iv⟩
theorem Cal_q {sc : aS} {d mc mr : Nat} {L : aL} (H : ∀ sh M W B sh2 M2, IP sh M W B → B + 1000000 < 2 ^ 31 → ModSh sh2 111 → QA sc d mc mr L sh M W sh2 M2) : Cal sc d mc mr L := fun sh M B h hB => Cal_two h.mod (fun sh2 M2 hS2 => by
  obtain ⟨ans, M1, W', h1, h2, h3, h4, h5⟩ := H sh M (lc M 111) B sh2 M2 h hB hS2
  exact ⟨ans, sh, M1, W', h1, h2, h4, h.fr h3 h5 (by omega)⟩)
section
variable {sc : aS} {d : Nat} {sh : List sE} {M W R : aM} {a s tp sr p o dr rf kk : Nat}
theorem Bu_g0 (hb : BusSh sh s tp sr a p o dr rf kk) : e_gf (mk sh M) s 11 0 = some (.ref tp) := by rw [gf_mk hb.1]; rfl
theorem Bu_g1 (hb : BusSh sh s tp sr a p o dr rf kk) : e_gf (mk sh M) s 11 1 = some (.ref sr) := by rw [gf_mk hb.1]; rfl
theorem Bu_g4 (hb : BusSh sh s tp sr a p o dr rf kk) : e_gf (mk sh M) s 11 4 = some (.ref o) := by rw [gf_mk hb.1]; rfl
theorem Bu_g5 (hb : BusSh sh s tp sr a p o dr rf kk) : e_gf (mk sh M) s 11 5 = some (.ref dr) := by rw [gf_mk hb.1]; rfl
end
/-! the acts by name -/
section
variable {sc : aS} {d : Nat} {x y v m : Int32}
theorem V_come : Cal sc (d + 20) 138 242 [(1, .int x), (2, .int y), (3, .int v), (4, .int m)] := fun sh M B h hB => Cal_two h.mod (fun sh2 M2 hS2 => by
  obtain ⟨ans, kk, sh', M1, M', W', b1, b2, q1, q2, q3, q4, q5⟩ := C_act (sc := sc) (sc2 := sc) (d := d + 12) (d2 := d + 7) (sh2 := sh2) (M2 := M2) (k := 0) (x := x) (y := y) (v := v) (m := m) h (by omega) (by decide) hS2
  exact ⟨ans, sh', M', W', B_come b1 b2 q1 q2, Q_come hS2 q3, fun x z1 z2 => q4 x z1 (by omega), q5.mono (by omega)⟩)
theorem V_tick : Cal sc (d + 20) 139 243 [(1, .int x)] := fun sh M B h hB => Cal_two h.mod (fun sh2 M2 hS2 => by
  obtain ⟨ans, kk, sh', M1, M', W', b1, b2, q1, q2, q3, q4, q5⟩ := C_act (sc := sc) (sc2 := sc) (d := d + 12) (d2 := d + 7) (sh2 := sh2) (M2 := M2) (k := 1) (x := x) (y := 0) (v := 0) (m := 0) h (by omega) (by decide) hS2
  exact ⟨ans, sh', M', W', B_tick b1 b2 q1 q2, Q_tick hS2 q3, fun x z1 z2 => q4 x z1 (by omega), q5.mono (by omega)⟩)
theorem V_cut : Cal sc (d + 20) 140 244 [(1, .int x)] := fun sh M B h hB => Cal_two h.mod (fun sh2 M2 hS2 => by
  obtain ⟨ans, kk, sh', M1, M', W', b1, b2, q1, q2, q3, q4, q5⟩ := C_act (sc := sc) (sc2 := sc) (d := d + 12) (d2 := d + 7) (sh2 := sh2) (M2 := M2) (k := 2) (x := x) (y := 0) (v := 0) (m := 0) h (by omega) (by decide) hS2
  exact ⟨ans, sh', M', W', B_cut b1 b2 q1 q2, Q_cut hS2 q3, fun x z1 z2 => q4 x z1 (by omega), q5.mono (by omega)⟩)
theorem V_heal : Cal sc (d + 20) 141 245 [(1, .int x)] := fun sh M B h hB => Cal_two h.mod (fun sh2 M2 hS2 => by
  obtain ⟨ans, kk, sh', M1, M', W', b1, b2, q1, q2, q3, q4, q5⟩ := C_act (sc := sc) (sc2 := sc) (d := d + 12) (d2 := d + 7) (sh2 := sh2) (M2 := M2) (k := 3) (x := x) (y := 0) (v := 0) (m := 0) h (by omega) (by decide) hS2
  exact ⟨ans, sh', M', W', B_heal b1 b2 q1 q2, Q_heal hS2 q3, fun x z1 z2 => q4 x z1 (by omega), q5.mono (by omega)⟩)
theorem V_eraser : Cal sc (d + 20) 142 246 [(1, .int x)] := fun sh M B h hB => Cal_two h.mod (fun sh2 M2 hS2 => by
  obtain ⟨ans, kk, sh', M1, M', W', b1, b2, q1, q2, q3, q4, q5⟩ := C_act (sc := sc) (sc2 := sc) (d := d + 12) (d2 := d + 7) (sh2 := sh2) (M2 := M2) (k := 4) (x := x) (y := 0) (v := 0) (m := 0) h (by omega) (by decide) hS2
  exact ⟨ans, sh', M', W', B_eraser b1 b2 q1 q2, Q_eraser hS2 q3, fun x z1 z2 => q4 x z1 (by omega), q5.mono (by omega)⟩)
theorem V_withdraw : Cal sc (d + 20) 143 248 [(1, .int x), (2, .int y)] := fun sh M B h hB => Cal_two h.mod (fun sh2 M2 hS2 => by
  obtain ⟨ans, kk, sh', M1, M', W', b1, b2, q1, q2, q3, q4, q5⟩ := C_act (sc := sc) (sc2 := sc) (d := d + 12) (d2 := d + 7) (sh2 := sh2) (M2 := M2) (k := 5) (x := x) (y := y) (v := 0) (m := 0) h (by omega) (by decide) hS2
  exact ⟨ans, sh', M', W', B_withdraw b1 b2 q1 q2, Q_withdraw hS2 q3, fun x z1 z2 => q4 x z1 (by omega), q5.mono (by omega)⟩)
theorem V_reserve : Cal sc (d + 20) 144 247 [(1, .int x), (2, .int y), (3, .int v)] := fun sh M B h hB => Cal_two h.mod (fun sh2 M2 hS2 => by
  obtain ⟨ans, kk, sh', M1, M', W', b1, b2, q1, q2, q3, q4, q5⟩ := C_act (sc := sc) (sc2 := sc) (d := d + 12) (d2 := d + 7) (sh2 := sh2) (M2 := M2) (k := 6) (x := x) (y := y) (v := v) (m := 0) h (by omega) (by decide) hS2
  exact ⟨ans, sh', M', W', B_reserve b1 b2 q1 q2, Q_reserve hS2 q3, fun x z1 z2 => q4 x z1 (by omega), q5.mono (by omega)⟩)
end
