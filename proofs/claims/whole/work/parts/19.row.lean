/-! A ROW at the ref a: 31 cells; its memory R is read from its own zero on -/
def rowE (a k : Nat) : sE := match k with
  | 0 => .inl (5, [0, 0, 0, 0, 0, 0, 0, (a + 1) + 3, (a + 2) + 3, (a + 3) + 3, (a + 4) + 3, (a + 5) + 3, (a + 17) + 3, (a + 19) + 3, (a + 26) + 3, (a + 28) + 3, (a + 30) + 3])
  | 1 => .inr (.inl (0, 2))
  | 2 => .inr (.inl (0, 2))
  | 3 => .inr (.inl (0, 2))
  | 4 => .inr (.inl (0, 7))
  | 5 => .inl (2, [(a + 6) + 3, (a + 7) + 3, (a + 8) + 3, (a + 9) + 3, (a + 10) + 3, (a + 11) + 3, (a + 12) + 3, (a + 13) + 3, (a + 14) + 3, (a + 15) + 3, (a + 16) + 3, 0, 0])
  | 6 => .inr (.inl (0, 48))
  | 7 => .inr (.inl (0, 48))
  | 8 => .inr (.inl (0, 48))
  | 9 => .inr (.inl (0, 48))
  | 10 => .inr (.inl (0, 48))
  | 11 => .inr (.inl (0, 48))
  | 12 => .inr (.inl (0, 240))
  | 13 => .inr (.inl (0, 240))
  | 14 => .inr (.inl (0, 240))
  | 15 => .inr (.inl (0, 240))
  | 16 => .inr (.inl (0, 8))
  | 17 => .inl (1, [(a + 18) + 3])
  | 18 => .inr (.inl (0, 448))
  | 19 => .inl (8, [0, 0, 0, 0, 0, 0, (a + 20) + 3, (a + 21) + 3, (a + 22) + 3, (a + 23) + 3, (a + 24) + 3, (a + 25) + 3])
  | 20 => .inr (.inl (0, 8))
  | 21 => .inr (.inl (0, 8))
  | 22 => .inr (.inl (0, 16))
  | 23 => .inr (.inl (0, 8))
  | 24 => .inr (.inl (0, 8))
  | 25 => .inr (.inl (0, 8))
  | 26 => .inl (10, [(a + 27) + 3, 0, 0, 0, 0])
  | 27 => .inr (.inl (0, 180))
  | 28 => .inl (10, [(a + 29) + 3, 0, 0, 0, 0])
  | 29 => .inr (.inl (0, 200))
  | _ => .inl (7, [0, 0, 0, 0, 0, 0, 0, 0, 0])
def RowSh (sh : List sE) (a : Nat) : Prop := ∀ k, k < 31 → shp sh (a + k) = some (rowE a k)
/-- a memory with a stretch of n refs from a on put in -/
def gl (M : aM) (a n : Nat) (R : aM) : aM := ((fun b k => if a ≤ b ∧ b < a + n then R.1 (b - a) k else M.1 b k), (fun b k => if a ≤ b ∧ b < a + n then R.2.1 (b - a) k else M.2.1 b k), M.2.2)
/-- a stretch, from its own zero on -/
def lc (M : aM) (a : Nat) : aM := ((fun b k => M.1 (a + b) k), (fun b k => M.2.1 (a + b) k), M.2.2)
theorem gl_lc (M : aM) (a n : Nat) : gl M a n (lc M a) = M := by
  obtain ⟨I, A, J⟩ := M
  simp only [gl, lc]
  congr 1
  · funext b k
    split
    · rename_i h
      rw [show a + (b - a) = b by omega]
    · rfl
  · congr 1
    funext b k
    split
    · rename_i h
      rw [show a + (b - a) = b by omega]
    · rfl
theorem gl_I {M R : aM} {a n k j : Nat} (h : k < n) : (gl M a n R).1 (a + k) j = R.1 k j := by
  simp only [gl]
  rw [if_pos ⟨by omega, by omega⟩, show a + k - a = k by omega]
theorem gl_A {M R : aM} {a n k : Nat} (h : k < n) : (gl M a n R).2.1 (a + k) = R.2.1 k := by
  funext j
  simp only [gl]
  rw [if_pos ⟨by omega, by omega⟩, show a + k - a = k by omega]
theorem gl_mI {M R : aM} {a n k j : Nat} {v : Int32} (h : k < n) : mI (gl M a n R) (a + k) j v = gl M a n (mI R k j v) := by
  simp only [gl, mI]
  congr 1
  funext b i
  simp only [up2]
  by_cases hb : b = a + k
  · subst hb
    rw [if_pos (⟨by omega, by omega⟩ : a ≤ a + k ∧ a + k < a + n), show a + k - a = k by omega, if_pos (⟨by omega, by omega⟩ : a ≤ a + k ∧ a + k < a + n)]
    simp
  · simp only [hb, false_and, if_false]
    split
    · rw [if_neg (fun q => hb (by omega))]
    · rfl
theorem gl_mA {M R : aM} {a n k j : Nat} {v : Int32} (h : k < n) : mA (gl M a n R) (a + k) j v = gl M a n (mA R k j v) := by
  simp only [gl, mA]
  congr 2
  funext b i
  simp only [up2]
  by_cases hb : b = a + k
  · subst hb
    rw [if_pos (⟨by omega, by omega⟩ : a ≤ a + k ∧ a + k < a + n), show a + k - a = k by omega, if_pos (⟨by omega, by omega⟩ : a ≤ a + k ∧ a + k < a + n)]
    simp
  · simp only [hb, false_and, if_false]
    split
    · rw [if_neg (fun q => hb (by omega))]
    · rfl
section ROW
variable {sc : aS} {sh : List sE} {M R : aM} {a : Nat}
theorem gfI_row {k ci j : Nat} {fl : List Nat} (hs : shp sh (a + k) = some (.inl (ci, fl))) (hk : k < 31) (hj : fl[j]? = some 0) : e_gf (mk sh (gl M a 31 R)) (a + k) ci j = some (.int (R.1 k j)) := by
  rw [gf_mk hs, hj]
  show some (Value.int ((gl M a 31 R).1 (a + k) j)) = _
  rw [gl_I hk]
theorem gfR_row {k ci j r : Nat} {fl : List Nat} (hs : shp sh (a + k) = some (.inl (ci, fl))) (hj : fl[j]? = some (r + 3)) : e_gf (mk sh (gl M a 31 R)) (a + k) ci j = some (.ref r) := by
  rw [gf_mk hs, hj]
  rfl
theorem pf_row {k ci j : Nat} {fl : List Nat} {v : Int32} (hs : shp sh (a + k) = some (.inl (ci, fl))) (hk : k < 31) (hj : fl[j]? = some 0) (hf : e_fit (pTy ci j) (.int v) = true) : e_pf (mk sh (gl M a 31 R)) (a + k) ci j (.int v) = some (mk sh (gl M a 31 (mI R k j v))) := by
  rw [pfI_mk hs hj hf, gl_mI hk]
theorem pfz_row {k ci j : Nat} {fl : List Nat} {v : Int32} (hs : shp sh (a + k) = some (.inl (ci, fl))) (hk : k < 31) (hj : fl[j]? = some 0) (hf : pTy ci j = .boolean) : e_pf (mk sh (gl M a 31 R)) (a + k) ci j (.int v) = if v = 0 ∨ v = 1 then some (mk sh (gl M a 31 (mI R k j v))) else none := by
  by_cases hv : v = 0 ∨ v = 1
  · rw [if_pos hv]
    exact pf_row hs hk hj (by rw [hf]; rcases hv with rfl | rfl <;> rfl)
  · rw [if_neg hv]
    unfold e_pf
    rw [e_c_mk, hs, hf]
    have : e_fit .boolean (.int v) = false := by
      simp only [e_fit, Bool.or_eq_false_iff, beq_eq_false_iff_ne]
      exact ⟨fun q => hv (Or.inl q), fun q => hv (Or.inr q)⟩
    simp only [Option.map_some, mkc, this, Bool.and_false, cond_false]
theorem ia_row {k n : Nat} {j : Int32} (hs : shp sh (a + k) = some (.inr (.inl (0, n)))) (hk : k < 31) : e_ia sc (mk sh (gl M a 31 R)) (a + k) 0 j = if ¬ (j < 0 ∨ n ≤ j.toNatClampNeg) then some (R.2.1 k j.toNatClampNeg) else none := by
  rw [ia_mk hs, gl_A hk]
theorem is_row {k n : Nat} {j v : Int32} (hs : shp sh (a + k) = some (.inr (.inl (0, n)))) (hk : k < 31) : e_is (mk sh (gl M a 31 R)) (a + k) j v = if ¬ (j < 0 ∨ n ≤ j.toNatClampNeg) then some (mk sh (gl M a 31 (mA R k j.toNatClampNeg v))) else none := by
  rw [is_mk hs, gl_mA hk]
theorem gR0_0 (hS : RowSh sh a) : e_gf (mk sh (gl M a 31 R)) a 5 0 = some (.int (R.1 0 0)) := gfI_row (k := 0) (show shp sh (a + 0) = some (rowE a 0) from hS 0 (by decide)) (by decide) rfl
theorem pR0_0 (hS : RowSh sh a) {v : Int32} : e_pf (mk sh (gl M a 31 R)) a 5 0 (.int v) = some (mk sh (gl M a 31 (mI R 0 0 v))) := pf_row (k := 0) (show shp sh (a + 0) = some (rowE a 0) from hS 0 (by decide)) (by decide) rfl rfl
theorem gR0_1 (hS : RowSh sh a) : e_gf (mk sh (gl M a 31 R)) a 5 1 = some (.int (R.1 0 1)) := gfI_row (k := 0) (show shp sh (a + 0) = some (rowE a 0) from hS 0 (by decide)) (by decide) rfl
theorem pR0_1 (hS : RowSh sh a) {v : Int32} : e_pf (mk sh (gl M a 31 R)) a 5 1 (.int v) = some (mk sh (gl M a 31 (mI R 0 1 v))) := pf_row (k := 0) (show shp sh (a + 0) = some (rowE a 0) from hS 0 (by decide)) (by decide) rfl rfl
theorem gR0_2 (hS : RowSh sh a) : e_gf (mk sh (gl M a 31 R)) a 5 2 = some (.int (R.1 0 2)) := gfI_row (k := 0) (show shp sh (a + 0) = some (rowE a 0) from hS 0 (by decide)) (by decide) rfl
theorem pR0_2 (hS : RowSh sh a) {v : Int32} : e_pf (mk sh (gl M a 31 R)) a 5 2 (.int v) = some (mk sh (gl M a 31 (mI R 0 2 v))) := pf_row (k := 0) (show shp sh (a + 0) = some (rowE a 0) from hS 0 (by decide)) (by decide) rfl rfl
theorem gR0_3 (hS : RowSh sh a) : e_gf (mk sh (gl M a 31 R)) a 5 3 = some (.int (R.1 0 3)) := gfI_row (k := 0) (show shp sh (a + 0) = some (rowE a 0) from hS 0 (by decide)) (by decide) rfl
theorem pR0_3 (hS : RowSh sh a) {v : Int32} : e_pf (mk sh (gl M a 31 R)) a 5 3 (.int v) = some (mk sh (gl M a 31 (mI R 0 3 v))) := pf_row (k := 0) (show shp sh (a + 0) = some (rowE a 0) from hS 0 (by decide)) (by decide) rfl rfl
theorem gR0_4 (hS : RowSh sh a) : e_gf (mk sh (gl M a 31 R)) a 5 4 = some (.int (R.1 0 4)) := gfI_row (k := 0) (show shp sh (a + 0) = some (rowE a 0) from hS 0 (by decide)) (by decide) rfl
theorem pR0_4 (hS : RowSh sh a) {v : Int32} : e_pf (mk sh (gl M a 31 R)) a 5 4 (.int v) = some (mk sh (gl M a 31 (mI R 0 4 v))) := pf_row (k := 0) (show shp sh (a + 0) = some (rowE a 0) from hS 0 (by decide)) (by decide) rfl rfl
theorem gR0_5 (hS : RowSh sh a) : e_gf (mk sh (gl M a 31 R)) a 5 5 = some (.int (R.1 0 5)) := gfI_row (k := 0) (show shp sh (a + 0) = some (rowE a 0) from hS 0 (by decide)) (by decide) rfl
theorem pR0_5 (hS : RowSh sh a) {v : Int32} : e_pf (mk sh (gl M a 31 R)) a 5 5 (.int v) = some (mk sh (gl M a 31 (mI R 0 5 v))) := pf_row (k := 0) (show shp sh (a + 0) = some (rowE a 0) from hS 0 (by decide)) (by decide) rfl rfl
theorem gR0_6 (hS : RowSh sh a) : e_gf (mk sh (gl M a 31 R)) a 5 6 = some (.int (R.1 0 6)) := gfI_row (k := 0) (show shp sh (a + 0) = some (rowE a 0) from hS 0 (by decide)) (by decide) rfl
theorem pR0_6 (hS : RowSh sh a) {v : Int32} : e_pf (mk sh (gl M a 31 R)) a 5 6 (.int v) = some (mk sh (gl M a 31 (mI R 0 6 v))) := pf_row (k := 0) (show shp sh (a + 0) = some (rowE a 0) from hS 0 (by decide)) (by decide) rfl rfl
theorem gR0_7 (hS : RowSh sh a) : e_gf (mk sh (gl M a 31 R)) a 5 7 = some (.ref (a + 1)) := gfR_row (k := 0) (show shp sh (a + 0) = some (rowE a 0) from hS 0 (by decide)) rfl
theorem gR0_8 (hS : RowSh sh a) : e_gf (mk sh (gl M a 31 R)) a 5 8 = some (.ref (a + 2)) := gfR_row (k := 0) (show shp sh (a + 0) = some (rowE a 0) from hS 0 (by decide)) rfl
theorem gR0_9 (hS : RowSh sh a) : e_gf (mk sh (gl M a 31 R)) a 5 9 = some (.ref (a + 3)) := gfR_row (k := 0) (show shp sh (a + 0) = some (rowE a 0) from hS 0 (by decide)) rfl
theorem gR0_10 (hS : RowSh sh a) : e_gf (mk sh (gl M a 31 R)) a 5 10 = some (.ref (a + 4)) := gfR_row (k := 0) (show shp sh (a + 0) = some (rowE a 0) from hS 0 (by decide)) rfl
theorem gR0_11 (hS : RowSh sh a) : e_gf (mk sh (gl M a 31 R)) a 5 11 = some (.ref (a + 5)) := gfR_row (k := 0) (show shp sh (a + 0) = some (rowE a 0) from hS 0 (by decide)) rfl
theorem gR0_12 (hS : RowSh sh a) : e_gf (mk sh (gl M a 31 R)) a 5 12 = some (.ref (a + 17)) := gfR_row (k := 0) (show shp sh (a + 0) = some (rowE a 0) from hS 0 (by decide)) rfl
theorem gR0_13 (hS : RowSh sh a) : e_gf (mk sh (gl M a 31 R)) a 5 13 = some (.ref (a + 19)) := gfR_row (k := 0) (show shp sh (a + 0) = some (rowE a 0) from hS 0 (by decide)) rfl
theorem gR0_14 (hS : RowSh sh a) : e_gf (mk sh (gl M a 31 R)) a 5 14 = some (.ref (a + 26)) := gfR_row (k := 0) (show shp sh (a + 0) = some (rowE a 0) from hS 0 (by decide)) rfl
theorem gR0_15 (hS : RowSh sh a) : e_gf (mk sh (gl M a 31 R)) a 5 15 = some (.ref (a + 28)) := gfR_row (k := 0) (show shp sh (a + 0) = some (rowE a 0) from hS 0 (by decide)) rfl
theorem gR0_16 (hS : RowSh sh a) : e_gf (mk sh (gl M a 31 R)) a 5 16 = some (.ref (a + 30)) := gfR_row (k := 0) (show shp sh (a + 0) = some (rowE a 0) from hS 0 (by decide)) rfl
theorem cR0 (hS : RowSh sh a) : e_isC (mk sh (gl M a 31 R)) a 5 = true := isC_mk (a := a + 0) (show shp sh (a + 0) = some (rowE a 0) from hS 0 (by decide))
theorem aR1 (hS : RowSh sh a) {j : Int32} : e_ia sc (mk sh (gl M a 31 R)) (a + 1) 0 j = if ¬ (j < 0 ∨ 2 ≤ j.toNatClampNeg) then some (R.2.1 1 j.toNatClampNeg) else none := ia_row (k := 1) (show shp sh (a + 1) = some (rowE a 1) from hS 1 (by decide)) (by decide)
theorem wR1 (hS : RowSh sh a) {j v : Int32} : e_is (mk sh (gl M a 31 R)) (a + 1) j v = if ¬ (j < 0 ∨ 2 ≤ j.toNatClampNeg) then some (mk sh (gl M a 31 (mA R 1 j.toNatClampNeg v))) else none := is_row (k := 1) (show shp sh (a + 1) = some (rowE a 1) from hS 1 (by decide)) (by decide)
theorem aR2 (hS : RowSh sh a) {j : Int32} : e_ia sc (mk sh (gl M a 31 R)) (a + 2) 0 j = if ¬ (j < 0 ∨ 2 ≤ j.toNatClampNeg) then some (R.2.1 2 j.toNatClampNeg) else none := ia_row (k := 2) (show shp sh (a + 2) = some (rowE a 2) from hS 2 (by decide)) (by decide)
theorem wR2 (hS : RowSh sh a) {j v : Int32} : e_is (mk sh (gl M a 31 R)) (a + 2) j v = if ¬ (j < 0 ∨ 2 ≤ j.toNatClampNeg) then some (mk sh (gl M a 31 (mA R 2 j.toNatClampNeg v))) else none := is_row (k := 2) (show shp sh (a + 2) = some (rowE a 2) from hS 2 (by decide)) (by decide)
theorem aR3 (hS : RowSh sh a) {j : Int32} : e_ia sc (mk sh (gl M a 31 R)) (a + 3) 0 j = if ¬ (j < 0 ∨ 2 ≤ j.toNatClampNeg) then some (R.2.1 3 j.toNatClampNeg) else none := ia_row (k := 3) (show shp sh (a + 3) = some (rowE a 3) from hS 3 (by decide)) (by decide)
theorem wR3 (hS : RowSh sh a) {j v : Int32} : e_is (mk sh (gl M a 31 R)) (a + 3) j v = if ¬ (j < 0 ∨ 2 ≤ j.toNatClampNeg) then some (mk sh (gl M a 31 (mA R 3 j.toNatClampNeg v))) else none := is_row (k := 3) (show shp sh (a + 3) = some (rowE a 3) from hS 3 (by decide)) (by decide)
theorem aR4 (hS : RowSh sh a) {j : Int32} : e_ia sc (mk sh (gl M a 31 R)) (a + 4) 0 j = if ¬ (j < 0 ∨ 7 ≤ j.toNatClampNeg) then some (R.2.1 4 j.toNatClampNeg) else none := ia_row (k := 4) (show shp sh (a + 4) = some (rowE a 4) from hS 4 (by decide)) (by decide)
theorem wR4 (hS : RowSh sh a) {j v : Int32} : e_is (mk sh (gl M a 31 R)) (a + 4) j v = if ¬ (j < 0 ∨ 7 ≤ j.toNatClampNeg) then some (mk sh (gl M a 31 (mA R 4 j.toNatClampNeg v))) else none := is_row (k := 4) (show shp sh (a + 4) = some (rowE a 4) from hS 4 (by decide)) (by decide)
theorem gR5_0 (hS : RowSh sh a) : e_gf (mk sh (gl M a 31 R)) (a + 5) 2 0 = some (.ref (a + 6)) := gfR_row (k := 5) (show shp sh (a + 5) = some (rowE a 5) from hS 5 (by decide)) rfl
theorem gR5_1 (hS : RowSh sh a) : e_gf (mk sh (gl M a 31 R)) (a + 5) 2 1 = some (.ref (a + 7)) := gfR_row (k := 5) (show shp sh (a + 5) = some (rowE a 5) from hS 5 (by decide)) rfl
theorem gR5_2 (hS : RowSh sh a) : e_gf (mk sh (gl M a 31 R)) (a + 5) 2 2 = some (.ref (a + 8)) := gfR_row (k := 5) (show shp sh (a + 5) = some (rowE a 5) from hS 5 (by decide)) rfl
theorem gR5_3 (hS : RowSh sh a) : e_gf (mk sh (gl M a 31 R)) (a + 5) 2 3 = some (.ref (a + 9)) := gfR_row (k := 5) (show shp sh (a + 5) = some (rowE a 5) from hS 5 (by decide)) rfl
theorem gR5_4 (hS : RowSh sh a) : e_gf (mk sh (gl M a 31 R)) (a + 5) 2 4 = some (.ref (a + 10)) := gfR_row (k := 5) (show shp sh (a + 5) = some (rowE a 5) from hS 5 (by decide)) rfl
theorem gR5_5 (hS : RowSh sh a) : e_gf (mk sh (gl M a 31 R)) (a + 5) 2 5 = some (.ref (a + 11)) := gfR_row (k := 5) (show shp sh (a + 5) = some (rowE a 5) from hS 5 (by decide)) rfl
theorem gR5_6 (hS : RowSh sh a) : e_gf (mk sh (gl M a 31 R)) (a + 5) 2 6 = some (.ref (a + 12)) := gfR_row (k := 5) (show shp sh (a + 5) = some (rowE a 5) from hS 5 (by decide)) rfl
theorem gR5_7 (hS : RowSh sh a) : e_gf (mk sh (gl M a 31 R)) (a + 5) 2 7 = some (.ref (a + 13)) := gfR_row (k := 5) (show shp sh (a + 5) = some (rowE a 5) from hS 5 (by decide)) rfl
theorem gR5_8 (hS : RowSh sh a) : e_gf (mk sh (gl M a 31 R)) (a + 5) 2 8 = some (.ref (a + 14)) := gfR_row (k := 5) (show shp sh (a + 5) = some (rowE a 5) from hS 5 (by decide)) rfl
theorem gR5_9 (hS : RowSh sh a) : e_gf (mk sh (gl M a 31 R)) (a + 5) 2 9 = some (.ref (a + 15)) := gfR_row (k := 5) (show shp sh (a + 5) = some (rowE a 5) from hS 5 (by decide)) rfl
theorem gR5_10 (hS : RowSh sh a) : e_gf (mk sh (gl M a 31 R)) (a + 5) 2 10 = some (.ref (a + 16)) := gfR_row (k := 5) (show shp sh (a + 5) = some (rowE a 5) from hS 5 (by decide)) rfl
theorem gR5_11 (hS : RowSh sh a) : e_gf (mk sh (gl M a 31 R)) (a + 5) 2 11 = some (.int (R.1 5 11)) := gfI_row (k := 5) (show shp sh (a + 5) = some (rowE a 5) from hS 5 (by decide)) (by decide) rfl
theorem pR5_11 (hS : RowSh sh a) {v : Int32} : e_pf (mk sh (gl M a 31 R)) (a + 5) 2 11 (.int v) = some (mk sh (gl M a 31 (mI R 5 11 v))) := pf_row (k := 5) (show shp sh (a + 5) = some (rowE a 5) from hS 5 (by decide)) (by decide) rfl rfl
theorem gR5_12 (hS : RowSh sh a) : e_gf (mk sh (gl M a 31 R)) (a + 5) 2 12 = some (.int (R.1 5 12)) := gfI_row (k := 5) (show shp sh (a + 5) = some (rowE a 5) from hS 5 (by decide)) (by decide) rfl
theorem pR5_12 (hS : RowSh sh a) {v : Int32} : e_pf (mk sh (gl M a 31 R)) (a + 5) 2 12 (.int v) = some (mk sh (gl M a 31 (mI R 5 12 v))) := pf_row (k := 5) (show shp sh (a + 5) = some (rowE a 5) from hS 5 (by decide)) (by decide) rfl rfl
theorem cR5 (hS : RowSh sh a) : e_isC (mk sh (gl M a 31 R)) (a + 5) 2 = true := isC_mk (a := a + 5) (show shp sh (a + 5) = some (rowE a 5) from hS 5 (by decide))
theorem aR6 (hS : RowSh sh a) {j : Int32} : e_ia sc (mk sh (gl M a 31 R)) (a + 6) 0 j = if ¬ (j < 0 ∨ 48 ≤ j.toNatClampNeg) then some (R.2.1 6 j.toNatClampNeg) else none := ia_row (k := 6) (show shp sh (a + 6) = some (rowE a 6) from hS 6 (by decide)) (by decide)
theorem wR6 (hS : RowSh sh a) {j v : Int32} : e_is (mk sh (gl M a 31 R)) (a + 6) j v = if ¬ (j < 0 ∨ 48 ≤ j.toNatClampNeg) then some (mk sh (gl M a 31 (mA R 6 j.toNatClampNeg v))) else none := is_row (k := 6) (show shp sh (a + 6) = some (rowE a 6) from hS 6 (by decide)) (by decide)
theorem aR7 (hS : RowSh sh a) {j : Int32} : e_ia sc (mk sh (gl M a 31 R)) (a + 7) 0 j = if ¬ (j < 0 ∨ 48 ≤ j.toNatClampNeg) then some (R.2.1 7 j.toNatClampNeg) else none := ia_row (k := 7) (show shp sh (a + 7) = some (rowE a 7) from hS 7 (by decide)) (by decide)
theorem wR7 (hS : RowSh sh a) {j v : Int32} : e_is (mk sh (gl M a 31 R)) (a + 7) j v = if ¬ (j < 0 ∨ 48 ≤ j.toNatClampNeg) then some (mk sh (gl M a 31 (mA R 7 j.toNatClampNeg v))) else none := is_row (k := 7) (show shp sh (a + 7) = some (rowE a 7) from hS 7 (by decide)) (by decide)
theorem aR8 (hS : RowSh sh a) {j : Int32} : e_ia sc (mk sh (gl M a 31 R)) (a + 8) 0 j = if ¬ (j < 0 ∨ 48 ≤ j.toNatClampNeg) then some (R.2.1 8 j.toNatClampNeg) else none := ia_row (k := 8) (show shp sh (a + 8) = some (rowE a 8) from hS 8 (by decide)) (by decide)
theorem wR8 (hS : RowSh sh a) {j v : Int32} : e_is (mk sh (gl M a 31 R)) (a + 8) j v = if ¬ (j < 0 ∨ 48 ≤ j.toNatClampNeg) then some (mk sh (gl M a 31 (mA R 8 j.toNatClampNeg v))) else none := is_row (k := 8) (show shp sh (a + 8) = some (rowE a 8) from hS 8 (by decide)) (by decide)
theorem aR9 (hS : RowSh sh a) {j : Int32} : e_ia sc (mk sh (gl M a 31 R)) (a + 9) 0 j = if ¬ (j < 0 ∨ 48 ≤ j.toNatClampNeg) then some (R.2.1 9 j.toNatClampNeg) else none := ia_row (k := 9) (show shp sh (a + 9) = some (rowE a 9) from hS 9 (by decide)) (by decide)
theorem wR9 (hS : RowSh sh a) {j v : Int32} : e_is (mk sh (gl M a 31 R)) (a + 9) j v = if ¬ (j < 0 ∨ 48 ≤ j.toNatClampNeg) then some (mk sh (gl M a 31 (mA R 9 j.toNatClampNeg v))) else none := is_row (k := 9) (show shp sh (a + 9) = some (rowE a 9) from hS 9 (by decide)) (by decide)
theorem aR10 (hS : RowSh sh a) {j : Int32} : e_ia sc (mk sh (gl M a 31 R)) (a + 10) 0 j = if ¬ (j < 0 ∨ 48 ≤ j.toNatClampNeg) then some (R.2.1 10 j.toNatClampNeg) else none := ia_row (k := 10) (show shp sh (a + 10) = some (rowE a 10) from hS 10 (by decide)) (by decide)
theorem wR10 (hS : RowSh sh a) {j v : Int32} : e_is (mk sh (gl M a 31 R)) (a + 10) j v = if ¬ (j < 0 ∨ 48 ≤ j.toNatClampNeg) then some (mk sh (gl M a 31 (mA R 10 j.toNatClampNeg v))) else none := is_row (k := 10) (show shp sh (a + 10) = some (rowE a 10) from hS 10 (by decide)) (by decide)
theorem aR11 (hS : RowSh sh a) {j : Int32} : e_ia sc (mk sh (gl M a 31 R)) (a + 11) 0 j = if ¬ (j < 0 ∨ 48 ≤ j.toNatClampNeg) then some (R.2.1 11 j.toNatClampNeg) else none := ia_row (k := 11) (show shp sh (a + 11) = some (rowE a 11) from hS 11 (by decide)) (by decide)
theorem wR11 (hS : RowSh sh a) {j v : Int32} : e_is (mk sh (gl M a 31 R)) (a + 11) j v = if ¬ (j < 0 ∨ 48 ≤ j.toNatClampNeg) then some (mk sh (gl M a 31 (mA R 11 j.toNatClampNeg v))) else none := is_row (k := 11) (show shp sh (a + 11) = some (rowE a 11) from hS 11 (by decide)) (by decide)
theorem aR12 (hS : RowSh sh a) {j : Int32} : e_ia sc (mk sh (gl M a 31 R)) (a + 12) 0 j = if ¬ (j < 0 ∨ 240 ≤ j.toNatClampNeg) then some (R.2.1 12 j.toNatClampNeg) else none := ia_row (k := 12) (show shp sh (a + 12) = some (rowE a 12) from hS 12 (by decide)) (by decide)
theorem wR12 (hS : RowSh sh a) {j v : Int32} : e_is (mk sh (gl M a 31 R)) (a + 12) j v = if ¬ (j < 0 ∨ 240 ≤ j.toNatClampNeg) then some (mk sh (gl M a 31 (mA R 12 j.toNatClampNeg v))) else none := is_row (k := 12) (show shp sh (a + 12) = some (rowE a 12) from hS 12 (by decide)) (by decide)
theorem aR13 (hS : RowSh sh a) {j : Int32} : e_ia sc (mk sh (gl M a 31 R)) (a + 13) 0 j = if ¬ (j < 0 ∨ 240 ≤ j.toNatClampNeg) then some (R.2.1 13 j.toNatClampNeg) else none := ia_row (k := 13) (show shp sh (a + 13) = some (rowE a 13) from hS 13 (by decide)) (by decide)
theorem wR13 (hS : RowSh sh a) {j v : Int32} : e_is (mk sh (gl M a 31 R)) (a + 13) j v = if ¬ (j < 0 ∨ 240 ≤ j.toNatClampNeg) then some (mk sh (gl M a 31 (mA R 13 j.toNatClampNeg v))) else none := is_row (k := 13) (show shp sh (a + 13) = some (rowE a 13) from hS 13 (by decide)) (by decide)
theorem aR14 (hS : RowSh sh a) {j : Int32} : e_ia sc (mk sh (gl M a 31 R)) (a + 14) 0 j = if ¬ (j < 0 ∨ 240 ≤ j.toNatClampNeg) then some (R.2.1 14 j.toNatClampNeg) else none := ia_row (k := 14) (show shp sh (a + 14) = some (rowE a 14) from hS 14 (by decide)) (by decide)
theorem wR14 (hS : RowSh sh a) {j v : Int32} : e_is (mk sh (gl M a 31 R)) (a + 14) j v = if ¬ (j < 0 ∨ 240 ≤ j.toNatClampNeg) then some (mk sh (gl M a 31 (mA R 14 j.toNatClampNeg v))) else none := is_row (k := 14) (show shp sh (a + 14) = some (rowE a 14) from hS 14 (by decide)) (by decide)
theorem aR15 (hS : RowSh sh a) {j : Int32} : e_ia sc (mk sh (gl M a 31 R)) (a + 15) 0 j = if ¬ (j < 0 ∨ 240 ≤ j.toNatClampNeg) then some (R.2.1 15 j.toNatClampNeg) else none := ia_row (k := 15) (show shp sh (a + 15) = some (rowE a 15) from hS 15 (by decide)) (by decide)
theorem wR15 (hS : RowSh sh a) {j v : Int32} : e_is (mk sh (gl M a 31 R)) (a + 15) j v = if ¬ (j < 0 ∨ 240 ≤ j.toNatClampNeg) then some (mk sh (gl M a 31 (mA R 15 j.toNatClampNeg v))) else none := is_row (k := 15) (show shp sh (a + 15) = some (rowE a 15) from hS 15 (by decide)) (by decide)
theorem aR16 (hS : RowSh sh a) {j : Int32} : e_ia sc (mk sh (gl M a 31 R)) (a + 16) 0 j = if ¬ (j < 0 ∨ 8 ≤ j.toNatClampNeg) then some (R.2.1 16 j.toNatClampNeg) else none := ia_row (k := 16) (show shp sh (a + 16) = some (rowE a 16) from hS 16 (by decide)) (by decide)
theorem wR16 (hS : RowSh sh a) {j v : Int32} : e_is (mk sh (gl M a 31 R)) (a + 16) j v = if ¬ (j < 0 ∨ 8 ≤ j.toNatClampNeg) then some (mk sh (gl M a 31 (mA R 16 j.toNatClampNeg v))) else none := is_row (k := 16) (show shp sh (a + 16) = some (rowE a 16) from hS 16 (by decide)) (by decide)
theorem gR17_0 (hS : RowSh sh a) : e_gf (mk sh (gl M a 31 R)) (a + 17) 1 0 = some (.ref (a + 18)) := gfR_row (k := 17) (show shp sh (a + 17) = some (rowE a 17) from hS 17 (by decide)) rfl
theorem cR17 (hS : RowSh sh a) : e_isC (mk sh (gl M a 31 R)) (a + 17) 1 = true := isC_mk (a := a + 17) (show shp sh (a + 17) = some (rowE a 17) from hS 17 (by decide))
theorem aR18 (hS : RowSh sh a) {j : Int32} : e_ia sc (mk sh (gl M a 31 R)) (a + 18) 0 j = if ¬ (j < 0 ∨ 448 ≤ j.toNatClampNeg) then some (R.2.1 18 j.toNatClampNeg) else none := ia_row (k := 18) (show shp sh (a + 18) = some (rowE a 18) from hS 18 (by decide)) (by decide)
theorem wR18 (hS : RowSh sh a) {j v : Int32} : e_is (mk sh (gl M a 31 R)) (a + 18) j v = if ¬ (j < 0 ∨ 448 ≤ j.toNatClampNeg) then some (mk sh (gl M a 31 (mA R 18 j.toNatClampNeg v))) else none := is_row (k := 18) (show shp sh (a + 18) = some (rowE a 18) from hS 18 (by decide)) (by decide)
theorem gR19_0 (hS : RowSh sh a) : e_gf (mk sh (gl M a 31 R)) (a + 19) 8 0 = some (.int (R.1 19 0)) := gfI_row (k := 19) (show shp sh (a + 19) = some (rowE a 19) from hS 19 (by decide)) (by decide) rfl
theorem pR19_0 (hS : RowSh sh a) {v : Int32} : e_pf (mk sh (gl M a 31 R)) (a + 19) 8 0 (.int v) = some (mk sh (gl M a 31 (mI R 19 0 v))) := pf_row (k := 19) (show shp sh (a + 19) = some (rowE a 19) from hS 19 (by decide)) (by decide) rfl rfl
theorem gR19_1 (hS : RowSh sh a) : e_gf (mk sh (gl M a 31 R)) (a + 19) 8 1 = some (.int (R.1 19 1)) := gfI_row (k := 19) (show shp sh (a + 19) = some (rowE a 19) from hS 19 (by decide)) (by decide) rfl
theorem pR19_1 (hS : RowSh sh a) {v : Int32} : e_pf (mk sh (gl M a 31 R)) (a + 19) 8 1 (.int v) = some (mk sh (gl M a 31 (mI R 19 1 v))) := pf_row (k := 19) (show shp sh (a + 19) = some (rowE a 19) from hS 19 (by decide)) (by decide) rfl rfl
theorem gR19_2 (hS : RowSh sh a) : e_gf (mk sh (gl M a 31 R)) (a + 19) 8 2 = some (.int (R.1 19 2)) := gfI_row (k := 19) (show shp sh (a + 19) = some (rowE a 19) from hS 19 (by decide)) (by decide) rfl
theorem pR19_2 (hS : RowSh sh a) {v : Int32} : e_pf (mk sh (gl M a 31 R)) (a + 19) 8 2 (.int v) = some (mk sh (gl M a 31 (mI R 19 2 v))) := pf_row (k := 19) (show shp sh (a + 19) = some (rowE a 19) from hS 19 (by decide)) (by decide) rfl rfl
theorem gR19_3 (hS : RowSh sh a) : e_gf (mk sh (gl M a 31 R)) (a + 19) 8 3 = some (.int (R.1 19 3)) := gfI_row (k := 19) (show shp sh (a + 19) = some (rowE a 19) from hS 19 (by decide)) (by decide) rfl
theorem pR19_3 (hS : RowSh sh a) {v : Int32} : e_pf (mk sh (gl M a 31 R)) (a + 19) 8 3 (.int v) = some (mk sh (gl M a 31 (mI R 19 3 v))) := pf_row (k := 19) (show shp sh (a + 19) = some (rowE a 19) from hS 19 (by decide)) (by decide) rfl rfl
theorem gR19_4 (hS : RowSh sh a) : e_gf (mk sh (gl M a 31 R)) (a + 19) 8 4 = some (.int (R.1 19 4)) := gfI_row (k := 19) (show shp sh (a + 19) = some (rowE a 19) from hS 19 (by decide)) (by decide) rfl
theorem pR19_4 (hS : RowSh sh a) {v : Int32} : e_pf (mk sh (gl M a 31 R)) (a + 19) 8 4 (.int v) = some (mk sh (gl M a 31 (mI R 19 4 v))) := pf_row (k := 19) (show shp sh (a + 19) = some (rowE a 19) from hS 19 (by decide)) (by decide) rfl rfl
theorem gR19_5 (hS : RowSh sh a) : e_gf (mk sh (gl M a 31 R)) (a + 19) 8 5 = some (.int (R.1 19 5)) := gfI_row (k := 19) (show shp sh (a + 19) = some (rowE a 19) from hS 19 (by decide)) (by decide) rfl
theorem pR19_5 (hS : RowSh sh a) {v : Int32} : e_pf (mk sh (gl M a 31 R)) (a + 19) 8 5 (.int v) = some (mk sh (gl M a 31 (mI R 19 5 v))) := pf_row (k := 19) (show shp sh (a + 19) = some (rowE a 19) from hS 19 (by decide)) (by decide) rfl rfl
theorem gR19_6 (hS : RowSh sh a) : e_gf (mk sh (gl M a 31 R)) (a + 19) 8 6 = some (.ref (a + 20)) := gfR_row (k := 19) (show shp sh (a + 19) = some (rowE a 19) from hS 19 (by decide)) rfl
theorem gR19_7 (hS : RowSh sh a) : e_gf (mk sh (gl M a 31 R)) (a + 19) 8 7 = some (.ref (a + 21)) := gfR_row (k := 19) (show shp sh (a + 19) = some (rowE a 19) from hS 19 (by decide)) rfl
theorem gR19_8 (hS : RowSh sh a) : e_gf (mk sh (gl M a 31 R)) (a + 19) 8 8 = some (.ref (a + 22)) := gfR_row (k := 19) (show shp sh (a + 19) = some (rowE a 19) from hS 19 (by decide)) rfl
theorem gR19_9 (hS : RowSh sh a) : e_gf (mk sh (gl M a 31 R)) (a + 19) 8 9 = some (.ref (a + 23)) := gfR_row (k := 19) (show shp sh (a + 19) = some (rowE a 19) from hS 19 (by decide)) rfl
theorem gR19_10 (hS : RowSh sh a) : e_gf (mk sh (gl M a 31 R)) (a + 19) 8 10 = some (.ref (a + 24)) := gfR_row (k := 19) (show shp sh (a + 19) = some (rowE a 19) from hS 19 (by decide)) rfl
theorem gR19_11 (hS : RowSh sh a) : e_gf (mk sh (gl M a 31 R)) (a + 19) 8 11 = some (.ref (a + 25)) := gfR_row (k := 19) (show shp sh (a + 19) = some (rowE a 19) from hS 19 (by decide)) rfl
theorem cR19 (hS : RowSh sh a) : e_isC (mk sh (gl M a 31 R)) (a + 19) 8 = true := isC_mk (a := a + 19) (show shp sh (a + 19) = some (rowE a 19) from hS 19 (by decide))
theorem aR20 (hS : RowSh sh a) {j : Int32} : e_ia sc (mk sh (gl M a 31 R)) (a + 20) 0 j = if ¬ (j < 0 ∨ 8 ≤ j.toNatClampNeg) then some (R.2.1 20 j.toNatClampNeg) else none := ia_row (k := 20) (show shp sh (a + 20) = some (rowE a 20) from hS 20 (by decide)) (by decide)
theorem wR20 (hS : RowSh sh a) {j v : Int32} : e_is (mk sh (gl M a 31 R)) (a + 20) j v = if ¬ (j < 0 ∨ 8 ≤ j.toNatClampNeg) then some (mk sh (gl M a 31 (mA R 20 j.toNatClampNeg v))) else none := is_row (k := 20) (show shp sh (a + 20) = some (rowE a 20) from hS 20 (by decide)) (by decide)
theorem aR21 (hS : RowSh sh a) {j : Int32} : e_ia sc (mk sh (gl M a 31 R)) (a + 21) 0 j = if ¬ (j < 0 ∨ 8 ≤ j.toNatClampNeg) then some (R.2.1 21 j.toNatClampNeg) else none := ia_row (k := 21) (show shp sh (a + 21) = some (rowE a 21) from hS 21 (by decide)) (by decide)
theorem wR21 (hS : RowSh sh a) {j v : Int32} : e_is (mk sh (gl M a 31 R)) (a + 21) j v = if ¬ (j < 0 ∨ 8 ≤ j.toNatClampNeg) then some (mk sh (gl M a 31 (mA R 21 j.toNatClampNeg v))) else none := is_row (k := 21) (show shp sh (a + 21) = some (rowE a 21) from hS 21 (by decide)) (by decide)
theorem aR22 (hS : RowSh sh a) {j : Int32} : e_ia sc (mk sh (gl M a 31 R)) (a + 22) 0 j = if ¬ (j < 0 ∨ 16 ≤ j.toNatClampNeg) then some (R.2.1 22 j.toNatClampNeg) else none := ia_row (k := 22) (show shp sh (a + 22) = some (rowE a 22) from hS 22 (by decide)) (by decide)
theorem wR22 (hS : RowSh sh a) {j v : Int32} : e_is (mk sh (gl M a 31 R)) (a + 22) j v = if ¬ (j < 0 ∨ 16 ≤ j.toNatClampNeg) then some (mk sh (gl M a 31 (mA R 22 j.toNatClampNeg v))) else none := is_row (k := 22) (show shp sh (a + 22) = some (rowE a 22) from hS 22 (by decide)) (by decide)
theorem aR23 (hS : RowSh sh a) {j : Int32} : e_ia sc (mk sh (gl M a 31 R)) (a + 23) 0 j = if ¬ (j < 0 ∨ 8 ≤ j.toNatClampNeg) then some (R.2.1 23 j.toNatClampNeg) else none := ia_row (k := 23) (show shp sh (a + 23) = some (rowE a 23) from hS 23 (by decide)) (by decide)
theorem wR23 (hS : RowSh sh a) {j v : Int32} : e_is (mk sh (gl M a 31 R)) (a + 23) j v = if ¬ (j < 0 ∨ 8 ≤ j.toNatClampNeg) then some (mk sh (gl M a 31 (mA R 23 j.toNatClampNeg v))) else none := is_row (k := 23) (show shp sh (a + 23) = some (rowE a 23) from hS 23 (by decide)) (by decide)
theorem aR24 (hS : RowSh sh a) {j : Int32} : e_ia sc (mk sh (gl M a 31 R)) (a + 24) 0 j = if ¬ (j < 0 ∨ 8 ≤ j.toNatClampNeg) then some (R.2.1 24 j.toNatClampNeg) else none := ia_row (k := 24) (show shp sh (a + 24) = some (rowE a 24) from hS 24 (by decide)) (by decide)
theorem wR24 (hS : RowSh sh a) {j v : Int32} : e_is (mk sh (gl M a 31 R)) (a + 24) j v = if ¬ (j < 0 ∨ 8 ≤ j.toNatClampNeg) then some (mk sh (gl M a 31 (mA R 24 j.toNatClampNeg v))) else none := is_row (k := 24) (show shp sh (a + 24) = some (rowE a 24) from hS 24 (by decide)) (by decide)
theorem aR25 (hS : RowSh sh a) {j : Int32} : e_ia sc (mk sh (gl M a 31 R)) (a + 25) 0 j = if ¬ (j < 0 ∨ 8 ≤ j.toNatClampNeg) then some (R.2.1 25 j.toNatClampNeg) else none := ia_row (k := 25) (show shp sh (a + 25) = some (rowE a 25) from hS 25 (by decide)) (by decide)
theorem wR25 (hS : RowSh sh a) {j v : Int32} : e_is (mk sh (gl M a 31 R)) (a + 25) j v = if ¬ (j < 0 ∨ 8 ≤ j.toNatClampNeg) then some (mk sh (gl M a 31 (mA R 25 j.toNatClampNeg v))) else none := is_row (k := 25) (show shp sh (a + 25) = some (rowE a 25) from hS 25 (by decide)) (by decide)
theorem gR26_0 (hS : RowSh sh a) : e_gf (mk sh (gl M a 31 R)) (a + 26) 10 0 = some (.ref (a + 27)) := gfR_row (k := 26) (show shp sh (a + 26) = some (rowE a 26) from hS 26 (by decide)) rfl
theorem gR26_1 (hS : RowSh sh a) : e_gf (mk sh (gl M a 31 R)) (a + 26) 10 1 = some (.int (R.1 26 1)) := gfI_row (k := 26) (show shp sh (a + 26) = some (rowE a 26) from hS 26 (by decide)) (by decide) rfl
theorem gR26_2 (hS : RowSh sh a) : e_gf (mk sh (gl M a 31 R)) (a + 26) 10 2 = some (.int (R.1 26 2)) := gfI_row (k := 26) (show shp sh (a + 26) = some (rowE a 26) from hS 26 (by decide)) (by decide) rfl
theorem gR26_3 (hS : RowSh sh a) : e_gf (mk sh (gl M a 31 R)) (a + 26) 10 3 = some (.int (R.1 26 3)) := gfI_row (k := 26) (show shp sh (a + 26) = some (rowE a 26) from hS 26 (by decide)) (by decide) rfl
theorem pR26_3 (hS : RowSh sh a) {v : Int32} : e_pf (mk sh (gl M a 31 R)) (a + 26) 10 3 (.int v) = some (mk sh (gl M a 31 (mI R 26 3 v))) := pf_row (k := 26) (show shp sh (a + 26) = some (rowE a 26) from hS 26 (by decide)) (by decide) rfl rfl
theorem gR26_4 (hS : RowSh sh a) : e_gf (mk sh (gl M a 31 R)) (a + 26) 10 4 = some (.int (R.1 26 4)) := gfI_row (k := 26) (show shp sh (a + 26) = some (rowE a 26) from hS 26 (by decide)) (by decide) rfl
theorem pR26_4 (hS : RowSh sh a) {v : Int32} : e_pf (mk sh (gl M a 31 R)) (a + 26) 10 4 (.int v) = some (mk sh (gl M a 31 (mI R 26 4 v))) := pf_row (k := 26) (show shp sh (a + 26) = some (rowE a 26) from hS 26 (by decide)) (by decide) rfl rfl
theorem cR26 (hS : RowSh sh a) : e_isC (mk sh (gl M a 31 R)) (a + 26) 10 = true := isC_mk (a := a + 26) (show shp sh (a + 26) = some (rowE a 26) from hS 26 (by decide))
theorem aR27 (hS : RowSh sh a) {j : Int32} : e_ia sc (mk sh (gl M a 31 R)) (a + 27) 0 j = if ¬ (j < 0 ∨ 180 ≤ j.toNatClampNeg) then some (R.2.1 27 j.toNatClampNeg) else none := ia_row (k := 27) (show shp sh (a + 27) = some (rowE a 27) from hS 27 (by decide)) (by decide)
theorem wR27 (hS : RowSh sh a) {j v : Int32} : e_is (mk sh (gl M a 31 R)) (a + 27) j v = if ¬ (j < 0 ∨ 180 ≤ j.toNatClampNeg) then some (mk sh (gl M a 31 (mA R 27 j.toNatClampNeg v))) else none := is_row (k := 27) (show shp sh (a + 27) = some (rowE a 27) from hS 27 (by decide)) (by decide)
theorem gR28_0 (hS : RowSh sh a) : e_gf (mk sh (gl M a 31 R)) (a + 28) 10 0 = some (.ref (a + 29)) := gfR_row (k := 28) (show shp sh (a + 28) = some (rowE a 28) from hS 28 (by decide)) rfl
theorem gR28_1 (hS : RowSh sh a) : e_gf (mk sh (gl M a 31 R)) (a + 28) 10 1 = some (.int (R.1 28 1)) := gfI_row (k := 28) (show shp sh (a + 28) = some (rowE a 28) from hS 28 (by decide)) (by decide) rfl
theorem gR28_2 (hS : RowSh sh a) : e_gf (mk sh (gl M a 31 R)) (a + 28) 10 2 = some (.int (R.1 28 2)) := gfI_row (k := 28) (show shp sh (a + 28) = some (rowE a 28) from hS 28 (by decide)) (by decide) rfl
theorem gR28_3 (hS : RowSh sh a) : e_gf (mk sh (gl M a 31 R)) (a + 28) 10 3 = some (.int (R.1 28 3)) := gfI_row (k := 28) (show shp sh (a + 28) = some (rowE a 28) from hS 28 (by decide)) (by decide) rfl
theorem pR28_3 (hS : RowSh sh a) {v : Int32} : e_pf (mk sh (gl M a 31 R)) (a + 28) 10 3 (.int v) = some (mk sh (gl M a 31 (mI R 28 3 v))) := pf_row (k := 28) (show shp sh (a + 28) = some (rowE a 28) from hS 28 (by decide)) (by decide) rfl rfl
theorem gR28_4 (hS : RowSh sh a) : e_gf (mk sh (gl M a 31 R)) (a + 28) 10 4 = some (.int (R.1 28 4)) := gfI_row (k := 28) (show shp sh (a + 28) = some (rowE a 28) from hS 28 (by decide)) (by decide) rfl
theorem pR28_4 (hS : RowSh sh a) {v : Int32} : e_pf (mk sh (gl M a 31 R)) (a + 28) 10 4 (.int v) = some (mk sh (gl M a 31 (mI R 28 4 v))) := pf_row (k := 28) (show shp sh (a + 28) = some (rowE a 28) from hS 28 (by decide)) (by decide) rfl rfl
theorem cR28 (hS : RowSh sh a) : e_isC (mk sh (gl M a 31 R)) (a + 28) 10 = true := isC_mk (a := a + 28) (show shp sh (a + 28) = some (rowE a 28) from hS 28 (by decide))
theorem aR29 (hS : RowSh sh a) {j : Int32} : e_ia sc (mk sh (gl M a 31 R)) (a + 29) 0 j = if ¬ (j < 0 ∨ 200 ≤ j.toNatClampNeg) then some (R.2.1 29 j.toNatClampNeg) else none := ia_row (k := 29) (show shp sh (a + 29) = some (rowE a 29) from hS 29 (by decide)) (by decide)
theorem wR29 (hS : RowSh sh a) {j v : Int32} : e_is (mk sh (gl M a 31 R)) (a + 29) j v = if ¬ (j < 0 ∨ 200 ≤ j.toNatClampNeg) then some (mk sh (gl M a 31 (mA R 29 j.toNatClampNeg v))) else none := is_row (k := 29) (show shp sh (a + 29) = some (rowE a 29) from hS 29 (by decide)) (by decide)
theorem gR30_0 (hS : RowSh sh a) : e_gf (mk sh (gl M a 31 R)) (a + 30) 7 0 = some (.int (R.1 30 0)) := gfI_row (k := 30) (show shp sh (a + 30) = some (rowE a 30) from hS 30 (by decide)) (by decide) rfl
theorem pR30_0 (hS : RowSh sh a) {v : Int32} : e_pf (mk sh (gl M a 31 R)) (a + 30) 7 0 (.int v) = if v = 0 ∨ v = 1 then some (mk sh (gl M a 31 (mI R 30 0 v))) else none := pfz_row (k := 30) (show shp sh (a + 30) = some (rowE a 30) from hS 30 (by decide)) (by decide) rfl rfl
theorem gR30_1 (hS : RowSh sh a) : e_gf (mk sh (gl M a 31 R)) (a + 30) 7 1 = some (.int (R.1 30 1)) := gfI_row (k := 30) (show shp sh (a + 30) = some (rowE a 30) from hS 30 (by decide)) (by decide) rfl
theorem pR30_1 (hS : RowSh sh a) {v : Int32} : e_pf (mk sh (gl M a 31 R)) (a + 30) 7 1 (.int v) = some (mk sh (gl M a 31 (mI R 30 1 v))) := pf_row (k := 30) (show shp sh (a + 30) = some (rowE a 30) from hS 30 (by decide)) (by decide) rfl rfl
theorem gR30_2 (hS : RowSh sh a) : e_gf (mk sh (gl M a 31 R)) (a + 30) 7 2 = some (.int (R.1 30 2)) := gfI_row (k := 30) (show shp sh (a + 30) = some (rowE a 30) from hS 30 (by decide)) (by decide) rfl
theorem pR30_2 (hS : RowSh sh a) {v : Int32} : e_pf (mk sh (gl M a 31 R)) (a + 30) 7 2 (.int v) = some (mk sh (gl M a 31 (mI R 30 2 v))) := pf_row (k := 30) (show shp sh (a + 30) = some (rowE a 30) from hS 30 (by decide)) (by decide) rfl rfl
theorem gR30_3 (hS : RowSh sh a) : e_gf (mk sh (gl M a 31 R)) (a + 30) 7 3 = some (.int (R.1 30 3)) := gfI_row (k := 30) (show shp sh (a + 30) = some (rowE a 30) from hS 30 (by decide)) (by decide) rfl
theorem pR30_3 (hS : RowSh sh a) {v : Int32} : e_pf (mk sh (gl M a 31 R)) (a + 30) 7 3 (.int v) = some (mk sh (gl M a 31 (mI R 30 3 v))) := pf_row (k := 30) (show shp sh (a + 30) = some (rowE a 30) from hS 30 (by decide)) (by decide) rfl rfl
theorem gR30_4 (hS : RowSh sh a) : e_gf (mk sh (gl M a 31 R)) (a + 30) 7 4 = some (.int (R.1 30 4)) := gfI_row (k := 30) (show shp sh (a + 30) = some (rowE a 30) from hS 30 (by decide)) (by decide) rfl
theorem pR30_4 (hS : RowSh sh a) {v : Int32} : e_pf (mk sh (gl M a 31 R)) (a + 30) 7 4 (.int v) = some (mk sh (gl M a 31 (mI R 30 4 v))) := pf_row (k := 30) (show shp sh (a + 30) = some (rowE a 30) from hS 30 (by decide)) (by decide) rfl rfl
theorem gR30_5 (hS : RowSh sh a) : e_gf (mk sh (gl M a 31 R)) (a + 30) 7 5 = some (.int (R.1 30 5)) := gfI_row (k := 30) (show shp sh (a + 30) = some (rowE a 30) from hS 30 (by decide)) (by decide) rfl
theorem pR30_5 (hS : RowSh sh a) {v : Int32} : e_pf (mk sh (gl M a 31 R)) (a + 30) 7 5 (.int v) = some (mk sh (gl M a 31 (mI R 30 5 v))) := pf_row (k := 30) (show shp sh (a + 30) = some (rowE a 30) from hS 30 (by decide)) (by decide) rfl rfl
theorem gR30_6 (hS : RowSh sh a) : e_gf (mk sh (gl M a 31 R)) (a + 30) 7 6 = some (.int (R.1 30 6)) := gfI_row (k := 30) (show shp sh (a + 30) = some (rowE a 30) from hS 30 (by decide)) (by decide) rfl
theorem pR30_6 (hS : RowSh sh a) {v : Int32} : e_pf (mk sh (gl M a 31 R)) (a + 30) 7 6 (.int v) = if v = 0 ∨ v = 1 then some (mk sh (gl M a 31 (mI R 30 6 v))) else none := pfz_row (k := 30) (show shp sh (a + 30) = some (rowE a 30) from hS 30 (by decide)) (by decide) rfl rfl
theorem gR30_7 (hS : RowSh sh a) : e_gf (mk sh (gl M a 31 R)) (a + 30) 7 7 = some (.int (R.1 30 7)) := gfI_row (k := 30) (show shp sh (a + 30) = some (rowE a 30) from hS 30 (by decide)) (by decide) rfl
theorem pR30_7 (hS : RowSh sh a) {v : Int32} : e_pf (mk sh (gl M a 31 R)) (a + 30) 7 7 (.int v) = some (mk sh (gl M a 31 (mI R 30 7 v))) := pf_row (k := 30) (show shp sh (a + 30) = some (rowE a 30) from hS 30 (by decide)) (by decide) rfl rfl
theorem gR30_8 (hS : RowSh sh a) : e_gf (mk sh (gl M a 31 R)) (a + 30) 7 8 = some (.int (R.1 30 8)) := gfI_row (k := 30) (show shp sh (a + 30) = some (rowE a 30) from hS 30 (by decide)) (by decide) rfl
theorem pR30_8 (hS : RowSh sh a) {v : Int32} : e_pf (mk sh (gl M a 31 R)) (a + 30) 7 8 (.int v) = some (mk sh (gl M a 31 (mI R 30 8 v))) := pf_row (k := 30) (show shp sh (a + 30) = some (rowE a 30) from hS 30 (by decide)) (by decide) rfl rfl
theorem cR30 (hS : RowSh sh a) : e_isC (mk sh (gl M a 31 R)) (a + 30) 7 = true := isC_mk (a := a + 30) (show shp sh (a + 30) = some (rowE a 30) from hS 30 (by decide))
end ROW
