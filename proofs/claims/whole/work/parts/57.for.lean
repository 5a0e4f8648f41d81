/-! ANOTHER ROW, at b, beside the row at a -/
def cpA (n : Nat) (f g : Nat → Int32) : Nat → Int32 := fun j => if j < n then f j else g j
theorem cpA_in {n j : Nat} {f g : Nat → Int32} (h : j < n) : cpA n f g j = f j := if_pos h
theorem gl_Io {M R : aM} {a n b j : Nat} (h : b < a ∨ a + n ≤ b) : (gl M a n R).1 b j = M.1 b j := by
  simp only [gl]
  rw [if_neg (by omega)]
theorem gl_Ao {M R : aM} {a n b : Nat} (h : b < a ∨ a + n ≤ b) : (gl M a n R).2.1 b = M.2.1 b := by
  funext j
  simp only [gl]
  rw [if_neg (by omega)]
theorem gl_mR {M R : aM} {a n k : Nat} {f : Nat → Int32} (h : k < n) : mR (gl M a n R) (a + k) f = gl M a n (mR R k f) := by
  simp only [gl, mR]
  congr 2
  funext b i
  by_cases hb : b = a + k
  · subst hb
    rw [if_pos rfl, if_pos (⟨by omega, by omega⟩ : a ≤ a + k ∧ a + k < a + n), show a + k - a = k by omega, if_pos rfl]
  · rw [if_neg hb]
    split
    · rw [if_neg (by omega)]
    · rfl
theorem va_cpy0 (f g : Nat → Int32) (n j : Nat) : va_cpy f g 0 0 n j = if j < n then f j else g j := by
  unfold va_cpy
  by_cases h : j < n
  · rw [if_pos (by omega), if_pos h, show 0 + (j - 0) = j by omega]
  · rw [if_neg (by omega), if_neg h]
theorem arr_mk {sc : aS} {sh : List sE} {M : aM} {a n : Nat} (hs : shp sh a = some (.inr (.inl (0, n)))) : e_arr sc (mk sh M) a 0 = some (n, M.2.1 a) := by
  unfold e_arr
  have h1 : Nat.blt a 32 = false := by
    unfold shp at hs
    cases hb : Nat.blt a 32 with
    | true => rw [hb] at hs; cases hs
    | false => rfl
  have h2 := e_c_mk sh M a
  unfold e_c at h2
  rw [h1] at h2 ⊢
  simp only [cond_false] at h2 ⊢
  rw [h2, hs]
  simp [mkc]
theorem cpy_mk {sc : aS} {sh : List sE} {M : aM} {a b n n0 n1 : Nat} {N : Int32} (hN : N = nI n) (hn : n < 2 ^ 31) (h0 : n ≤ n0) (h1 : n ≤ n1) (hb : shp sh b = some (.inr (.inl (0, n0)))) (ha : shp sh a = some (.inr (.inl (0, n1)))) : e_int sc 1003 [.ref b, .int 0, .ref a, .int 0, .int N] (mk sh M) = some (none, mk sh (mR M a (cpA n (M.2.1 b) (M.2.1 a)))) := by
  subst hN
  have e1 : e_c (mk sh M) a = some (.inl (0, n1, .inl (M.2.1 a))) := by rw [e_c_mk, ha]; rfl
  show (match e_arr sc (mk sh M) b 0, e_c (mk sh M) a with
    | some (n0, f), some (.inl (0, n1, .inl g)) => if ¬ (0 : Int32) < 0 ∧ ¬ (0 : Int32) < 0 ∧ ¬ nI n < 0 ∧ (0 : Int32).toNatClampNeg + (nI n).toNatClampNeg ≤ n0 ∧ (0 : Int32).toNatClampNeg + (nI n).toNatClampNeg ≤ n1 then some (none, (mk sh M).set (a - 32) (.inl (0, n1, .inl (va_cpy f g (0 : Int32).toNatClampNeg (0 : Int32).toNatClampNeg (nI n).toNatClampNeg)))) else none
    | _, _ => none) = _
  rw [arr_mk hb, e1]
  simp only
  rw [if_pos ⟨by decide, by decide, nI_pos hn, by rw [nI_clamp hn]; show 0 + n ≤ n0; omega, by rw [nI_clamp hn]; show 0 + n ≤ n1; omega⟩]
  congr 2
  refine mk_set0 ha ?_ (fun b t hb => mkc_offR t hb)
  simp only [mkc]
  congr 4
  funext j
  rw [nI_clamp hn, show (0 : Int32).toNatClampNeg = 0 from rfl, va_cpy0]
  simp only [mR, if_true, cpA]
section FOR
variable {sc : aS} {sh : List sE} {M R : aM} {a b : Nat}
theorem gfI_for {k ci j : Nat} {fl : List Nat} (hD : b + 31 ≤ a ∨ a + 31 ≤ b) (hs : shp sh (b + k) = some (.inl (ci, fl))) (hk : k < 31) (hj : fl[j]? = some 0) : e_gf (mk sh (gl M a 31 R)) (b + k) ci j = some (.int (M.1 (b + k) j)) := by
  rw [gf_mk hs, hj]
  show some (Value.int ((gl M a 31 R).1 (b + k) j)) = _
  rw [gl_Io (by omega)]
theorem gfR_for {k ci j r : Nat} {fl : List Nat} (hs : shp sh (b + k) = some (.inl (ci, fl))) (hj : fl[j]? = some (r + 3)) : e_gf (mk sh (gl M a 31 R)) (b + k) ci j = some (.ref r) := by
  rw [gf_mk hs, hj]
  rfl
theorem ia_for {k n : Nat} {j : Int32} (hD : b + 31 ≤ a ∨ a + 31 ≤ b) (hs : shp sh (b + k) = some (.inr (.inl (0, n)))) (hk : k < 31) : e_ia sc (mk sh (gl M a 31 R)) (b + k) 0 j = if ¬ (j < 0 ∨ n ≤ j.toNatClampNeg) then some (M.2.1 (b + k) j.toNatClampNeg) else none := by
  rw [ia_mk hs, gl_Ao (by omega)]
theorem cp_for {k n : Nat} {N : Int32} (hD : b + 31 ≤ a ∨ a + 31 ≤ b) (hN : N = nI n) (hn : n < 2 ^ 31) (hb : shp sh (b + k) = some (.inr (.inl (0, n)))) (ha : shp sh (a + k) = some (.inr (.inl (0, n)))) (hk : k < 31) : e_int sc 1003 [.ref (b + k), .int 0, .ref (a + k), .int 0, .int N] (mk sh (gl M a 31 R)) = some (none, mk sh (gl M a 31 (mR R k (cpA n (M.2.1 (b + k)) (R.2.1 k))))) := by
  rw [cpy_mk hN hn (Nat.le_refl _) (Nat.le_refl _) hb ha, gl_mR hk, gl_Ao (by omega), gl_A hk]
theorem gF0_0 (hD : b + 31 ≤ a ∨ a + 31 ≤ b) (hT : RowSh sh b) : e_gf (mk sh (gl M a 31 R)) b 5 0 = some (.int (M.1 b 0)) := gfI_for (k := 0) hD (show shp sh (b + 0) = some (rowE b 0) from hT 0 (by decide)) (by decide) rfl
theorem gF0_1 (hD : b + 31 ≤ a ∨ a + 31 ≤ b) (hT : RowSh sh b) : e_gf (mk sh (gl M a 31 R)) b 5 1 = some (.int (M.1 b 1)) := gfI_for (k := 0) hD (show shp sh (b + 0) = some (rowE b 0) from hT 0 (by decide)) (by decide) rfl
theorem gF0_2 (hD : b + 31 ≤ a ∨ a + 31 ≤ b) (hT : RowSh sh b) : e_gf (mk sh (gl M a 31 R)) b 5 2 = some (.int (M.1 b 2)) := gfI_for (k := 0) hD (show shp sh (b + 0) = some (rowE b 0) from hT 0 (by decide)) (by decide) rfl
theorem gF0_3 (hD : b + 31 ≤ a ∨ a + 31 ≤ b) (hT : RowSh sh b) : e_gf (mk sh (gl M a 31 R)) b 5 3 = some (.int (M.1 b 3)) := gfI_for (k := 0) hD (show shp sh (b + 0) = some (rowE b 0) from hT 0 (by decide)) (by decide) rfl
theorem gF0_4 (hD : b + 31 ≤ a ∨ a + 31 ≤ b) (hT : RowSh sh b) : e_gf (mk sh (gl M a 31 R)) b 5 4 = some (.int (M.1 b 4)) := gfI_for (k := 0) hD (show shp sh (b + 0) = some (rowE b 0) from hT 0 (by decide)) (by decide) rfl
theorem gF0_5 (hD : b + 31 ≤ a ∨ a + 31 ≤ b) (hT : RowSh sh b) : e_gf (mk sh (gl M a 31 R)) b 5 5 = some (.int (M.1 b 5)) := gfI_for (k := 0) hD (show shp sh (b + 0) = some (rowE b 0) from hT 0 (by decide)) (by decide) rfl
theorem gF0_6 (hD : b + 31 ≤ a ∨ a + 31 ≤ b) (hT : RowSh sh b) : e_gf (mk sh (gl M a 31 R)) b 5 6 = some (.int (M.1 b 6)) := gfI_for (k := 0) hD (show shp sh (b + 0) = some (rowE b 0) from hT 0 (by decide)) (by decide) rfl
theorem gF0_7 (hT : RowSh sh b) : e_gf (mk sh (gl M a 31 R)) b 5 7 = some (.ref (b + 1)) := gfR_for (k := 0) (show shp sh (b + 0) = some (rowE b 0) from hT 0 (by decide)) rfl
theorem gF0_8 (hT : RowSh sh b) : e_gf (mk sh (gl M a 31 R)) b 5 8 = some (.ref (b + 2)) := gfR_for (k := 0) (show shp sh (b + 0) = some (rowE b 0) from hT 0 (by decide)) rfl
theorem gF0_9 (hT : RowSh sh b) : e_gf (mk sh (gl M a 31 R)) b 5 9 = some (.ref (b + 3)) := gfR_for (k := 0) (show shp sh (b + 0) = some (rowE b 0) from hT 0 (by decide)) rfl
theorem gF0_10 (hT : RowSh sh b) : e_gf (mk sh (gl M a 31 R)) b 5 10 = some (.ref (b + 4)) := gfR_for (k := 0) (show shp sh (b + 0) = some (rowE b 0) from hT 0 (by decide)) rfl
theorem gF0_11 (hT : RowSh sh b) : e_gf (mk sh (gl M a 31 R)) b 5 11 = some (.ref (b + 5)) := gfR_for (k := 0) (show shp sh (b + 0) = some (rowE b 0) from hT 0 (by decide)) rfl
theorem gF0_12 (hT : RowSh sh b) : e_gf (mk sh (gl M a 31 R)) b 5 12 = some (.ref (b + 17)) := gfR_for (k := 0) (show shp sh (b + 0) = some (rowE b 0) from hT 0 (by decide)) rfl
theorem gF0_13 (hT : RowSh sh b) : e_gf (mk sh (gl M a 31 R)) b 5 13 = some (.ref (b + 19)) := gfR_for (k := 0) (show shp sh (b + 0) = some (rowE b 0) from hT 0 (by decide)) rfl
theorem gF0_14 (hT : RowSh sh b) : e_gf (mk sh (gl M a 31 R)) b 5 14 = some (.ref (b + 26)) := gfR_for (k := 0) (show shp sh (b + 0) = some (rowE b 0) from hT 0 (by decide)) rfl
theorem gF0_15 (hT : RowSh sh b) : e_gf (mk sh (gl M a 31 R)) b 5 15 = some (.ref (b + 28)) := gfR_for (k := 0) (show shp sh (b + 0) = some (rowE b 0) from hT 0 (by decide)) rfl
theorem gF0_16 (hT : RowSh sh b) : e_gf (mk sh (gl M a 31 R)) b 5 16 = some (.ref (b + 30)) := gfR_for (k := 0) (show shp sh (b + 0) = some (rowE b 0) from hT 0 (by decide)) rfl
theorem aF1 (hD : b + 31 ≤ a ∨ a + 31 ≤ b) (hT : RowSh sh b) {j : Int32} : e_ia sc (mk sh (gl M a 31 R)) (b + 1) 0 j = if ¬ (j < 0 ∨ 2 ≤ j.toNatClampNeg) then some (M.2.1 (b + 1) j.toNatClampNeg) else none := ia_for (k := 1) hD (show shp sh (b + 1) = some (rowE b 1) from hT 1 (by decide)) (by decide)
theorem aF2 (hD : b + 31 ≤ a ∨ a + 31 ≤ b) (hT : RowSh sh b) {j : Int32} : e_ia sc (mk sh (gl M a 31 R)) (b + 2) 0 j = if ¬ (j < 0 ∨ 2 ≤ j.toNatClampNeg) then some (M.2.1 (b + 2) j.toNatClampNeg) else none := ia_for (k := 2) hD (show shp sh (b + 2) = some (rowE b 2) from hT 2 (by decide)) (by decide)
theorem aF3 (hD : b + 31 ≤ a ∨ a + 31 ≤ b) (hT : RowSh sh b) {j : Int32} : e_ia sc (mk sh (gl M a 31 R)) (b + 3) 0 j = if ¬ (j < 0 ∨ 2 ≤ j.toNatClampNeg) then some (M.2.1 (b + 3) j.toNatClampNeg) else none := ia_for (k := 3) hD (show shp sh (b + 3) = some (rowE b 3) from hT 3 (by decide)) (by decide)
theorem gF5_0 (hT : RowSh sh b) : e_gf (mk sh (gl M a 31 R)) (b + 5) 2 0 = some (.ref (b + 6)) := gfR_for (k := 5) (show shp sh (b + 5) = some (rowE b 5) from hT 5 (by decide)) rfl
theorem gF5_1 (hT : RowSh sh b) : e_gf (mk sh (gl M a 31 R)) (b + 5) 2 1 = some (.ref (b + 7)) := gfR_for (k := 5) (show shp sh (b + 5) = some (rowE b 5) from hT 5 (by decide)) rfl
theorem gF5_2 (hT : RowSh sh b) : e_gf (mk sh (gl M a 31 R)) (b + 5) 2 2 = some (.ref (b + 8)) := gfR_for (k := 5) (show shp sh (b + 5) = some (rowE b 5) from hT 5 (by decide)) rfl
theorem gF5_3 (hT : RowSh sh b) : e_gf (mk sh (gl M a 31 R)) (b + 5) 2 3 = some (.ref (b + 9)) := gfR_for (k := 5) (show shp sh (b + 5) = some (rowE b 5) from hT 5 (by decide)) rfl
theorem gF5_4 (hT : RowSh sh b) : e_gf (mk sh (gl M a 31 R)) (b + 5) 2 4 = some (.ref (b + 10)) := gfR_for (k := 5) (show shp sh (b + 5) = some (rowE b 5) from hT 5 (by decide)) rfl
theorem gF5_5 (hT : RowSh sh b) : e_gf (mk sh (gl M a 31 R)) (b + 5) 2 5 = some (.ref (b + 11)) := gfR_for (k := 5) (show shp sh (b + 5) = some (rowE b 5) from hT 5 (by decide)) rfl
theorem gF5_6 (hT : RowSh sh b) : e_gf (mk sh (gl M a 31 R)) (b + 5) 2 6 = some (.ref (b + 12)) := gfR_for (k := 5) (show shp sh (b + 5) = some (rowE b 5) from hT 5 (by decide)) rfl
theorem gF5_7 (hT : RowSh sh b) : e_gf (mk sh (gl M a 31 R)) (b + 5) 2 7 = some (.ref (b + 13)) := gfR_for (k := 5) (show shp sh (b + 5) = some (rowE b 5) from hT 5 (by decide)) rfl
theorem gF5_8 (hT : RowSh sh b) : e_gf (mk sh (gl M a 31 R)) (b + 5) 2 8 = some (.ref (b + 14)) := gfR_for (k := 5) (show shp sh (b + 5) = some (rowE b 5) from hT 5 (by decide)) rfl
theorem gF5_9 (hT : RowSh sh b) : e_gf (mk sh (gl M a 31 R)) (b + 5) 2 9 = some (.ref (b + 15)) := gfR_for (k := 5) (show shp sh (b + 5) = some (rowE b 5) from hT 5 (by decide)) rfl
theorem gF5_10 (hT : RowSh sh b) : e_gf (mk sh (gl M a 31 R)) (b + 5) 2 10 = some (.ref (b + 16)) := gfR_for (k := 5) (show shp sh (b + 5) = some (rowE b 5) from hT 5 (by decide)) rfl
theorem gF5_11 (hD : b + 31 ≤ a ∨ a + 31 ≤ b) (hT : RowSh sh b) : e_gf (mk sh (gl M a 31 R)) (b + 5) 2 11 = some (.int (M.1 (b + 5) 11)) := gfI_for (k := 5) hD (show shp sh (b + 5) = some (rowE b 5) from hT 5 (by decide)) (by decide) rfl
theorem gF5_12 (hD : b + 31 ≤ a ∨ a + 31 ≤ b) (hT : RowSh sh b) : e_gf (mk sh (gl M a 31 R)) (b + 5) 2 12 = some (.int (M.1 (b + 5) 12)) := gfI_for (k := 5) hD (show shp sh (b + 5) = some (rowE b 5) from hT 5 (by decide)) (by decide) rfl
theorem cF6 (hD : b + 31 ≤ a ∨ a + 31 ≤ b) (hS : RowSh sh a) (hT : RowSh sh b) : e_int sc 1003 [.ref (b + 6), .int 0, .ref (a + 6), .int 0, .int 48] (mk sh (gl M a 31 R)) = some (none, mk sh (gl M a 31 (mR R 6 (cpA 48 (M.2.1 (b + 6)) (R.2.1 6))))) := cp_for (k := 6) hD rfl (by decide) (show shp sh (b + 6) = some (rowE b 6) from hT 6 (by decide)) (show shp sh (a + 6) = some (rowE a 6) from hS 6 (by decide)) (by decide)
theorem cF7 (hD : b + 31 ≤ a ∨ a + 31 ≤ b) (hS : RowSh sh a) (hT : RowSh sh b) : e_int sc 1003 [.ref (b + 7), .int 0, .ref (a + 7), .int 0, .int 48] (mk sh (gl M a 31 R)) = some (none, mk sh (gl M a 31 (mR R 7 (cpA 48 (M.2.1 (b + 7)) (R.2.1 7))))) := cp_for (k := 7) hD rfl (by decide) (show shp sh (b + 7) = some (rowE b 7) from hT 7 (by decide)) (show shp sh (a + 7) = some (rowE a 7) from hS 7 (by decide)) (by decide)
theorem cF8 (hD : b + 31 ≤ a ∨ a + 31 ≤ b) (hS : RowSh sh a) (hT : RowSh sh b) : e_int sc 1003 [.ref (b + 8), .int 0, .ref (a + 8), .int 0, .int 48] (mk sh (gl M a 31 R)) = some (none, mk sh (gl M a 31 (mR R 8 (cpA 48 (M.2.1 (b + 8)) (R.2.1 8))))) := cp_for (k := 8) hD rfl (by decide) (show shp sh (b + 8) = some (rowE b 8) from hT 8 (by decide)) (show shp sh (a + 8) = some (rowE a 8) from hS 8 (by decide)) (by decide)
theorem cF9 (hD : b + 31 ≤ a ∨ a + 31 ≤ b) (hS : RowSh sh a) (hT : RowSh sh b) : e_int sc 1003 [.ref (b + 9), .int 0, .ref (a + 9), .int 0, .int 48] (mk sh (gl M a 31 R)) = some (none, mk sh (gl M a 31 (mR R 9 (cpA 48 (M.2.1 (b + 9)) (R.2.1 9))))) := cp_for (k := 9) hD rfl (by decide) (show shp sh (b + 9) = some (rowE b 9) from hT 9 (by decide)) (show shp sh (a + 9) = some (rowE a 9) from hS 9 (by decide)) (by decide)
theorem cF10 (hD : b + 31 ≤ a ∨ a + 31 ≤ b) (hS : RowSh sh a) (hT : RowSh sh b) : e_int sc 1003 [.ref (b + 10), .int 0, .ref (a + 10), .int 0, .int 48] (mk sh (gl M a 31 R)) = some (none, mk sh (gl M a 31 (mR R 10 (cpA 48 (M.2.1 (b + 10)) (R.2.1 10))))) := cp_for (k := 10) hD rfl (by decide) (show shp sh (b + 10) = some (rowE b 10) from hT 10 (by decide)) (show shp sh (a + 10) = some (rowE a 10) from hS 10 (by decide)) (by decide)
theorem cF11 (hD : b + 31 ≤ a ∨ a + 31 ≤ b) (hS : RowSh sh a) (hT : RowSh sh b) : e_int sc 1003 [.ref (b + 11), .int 0, .ref (a + 11), .int 0, .int 48] (mk sh (gl M a 31 R)) = some (none, mk sh (gl M a 31 (mR R 11 (cpA 48 (M.2.1 (b + 11)) (R.2.1 11))))) := cp_for (k := 11) hD rfl (by decide) (show shp sh (b + 11) = some (rowE b 11) from hT 11 (by decide)) (show shp sh (a + 11) = some (rowE a 11) from hS 11 (by decide)) (by decide)
theorem cF12 (hD : b + 31 ≤ a ∨ a + 31 ≤ b) (hS : RowSh sh a) (hT : RowSh sh b) : e_int sc 1003 [.ref (b + 12), .int 0, .ref (a + 12), .int 0, .int 240] (mk sh (gl M a 31 R)) = some (none, mk sh (gl M a 31 (mR R 12 (cpA 240 (M.2.1 (b + 12)) (R.2.1 12))))) := cp_for (k := 12) hD rfl (by decide) (show shp sh (b + 12) = some (rowE b 12) from hT 12 (by decide)) (show shp sh (a + 12) = some (rowE a 12) from hS 12 (by decide)) (by decide)
theorem cF13 (hD : b + 31 ≤ a ∨ a + 31 ≤ b) (hS : RowSh sh a) (hT : RowSh sh b) : e_int sc 1003 [.ref (b + 13), .int 0, .ref (a + 13), .int 0, .int 240] (mk sh (gl M a 31 R)) = some (none, mk sh (gl M a 31 (mR R 13 (cpA 240 (M.2.1 (b + 13)) (R.2.1 13))))) := cp_for (k := 13) hD rfl (by decide) (show shp sh (b + 13) = some (rowE b 13) from hT 13 (by decide)) (show shp sh (a + 13) = some (rowE a 13) from hS 13 (by decide)) (by decide)
theorem cF14 (hD : b + 31 ≤ a ∨ a + 31 ≤ b) (hS : RowSh sh a) (hT : RowSh sh b) : e_int sc 1003 [.ref (b + 14), .int 0, .ref (a + 14), .int 0, .int 240] (mk sh (gl M a 31 R)) = some (none, mk sh (gl M a 31 (mR R 14 (cpA 240 (M.2.1 (b + 14)) (R.2.1 14))))) := cp_for (k := 14) hD rfl (by decide) (show shp sh (b + 14) = some (rowE b 14) from hT 14 (by decide)) (show shp sh (a + 14) = some (rowE a 14) from hS 14 (by decide)) (by decide)
theorem cF15 (hD : b + 31 ≤ a ∨ a + 31 ≤ b) (hS : RowSh sh a) (hT : RowSh sh b) : e_int sc 1003 [.ref (b + 15), .int 0, .ref (a + 15), .int 0, .int 240] (mk sh (gl M a 31 R)) = some (none, mk sh (gl M a 31 (mR R 15 (cpA 240 (M.2.1 (b + 15)) (R.2.1 15))))) := cp_for (k := 15) hD rfl (by decide) (show shp sh (b + 15) = some (rowE b 15) from hT 15 (by decide)) (show shp sh (a + 15) = some (rowE a 15) from hS 15 (by decide)) (by decide)
theorem cF16 (hD : b + 31 ≤ a ∨ a + 31 ≤ b) (hS : RowSh sh a) (hT : RowSh sh b) : e_int sc 1003 [.ref (b + 16), .int 0, .ref (a + 16), .int 0, .int 8] (mk sh (gl M a 31 R)) = some (none, mk sh (gl M a 31 (mR R 16 (cpA 8 (M.2.1 (b + 16)) (R.2.1 16))))) := cp_for (k := 16) hD rfl (by decide) (show shp sh (b + 16) = some (rowE b 16) from hT 16 (by decide)) (show shp sh (a + 16) = some (rowE a 16) from hS 16 (by decide)) (by decide)
theorem gF17_0 (hT : RowSh sh b) : e_gf (mk sh (gl M a 31 R)) (b + 17) 1 0 = some (.ref (b + 18)) := gfR_for (k := 17) (show shp sh (b + 17) = some (rowE b 17) from hT 17 (by decide)) rfl
theorem cF18 (hD : b + 31 ≤ a ∨ a + 31 ≤ b) (hS : RowSh sh a) (hT : RowSh sh b) : e_int sc 1003 [.ref (b + 18), .int 0, .ref (a + 18), .int 0, .int 448] (mk sh (gl M a 31 R)) = some (none, mk sh (gl M a 31 (mR R 18 (cpA 448 (M.2.1 (b + 18)) (R.2.1 18))))) := cp_for (k := 18) hD rfl (by decide) (show shp sh (b + 18) = some (rowE b 18) from hT 18 (by decide)) (show shp sh (a + 18) = some (rowE a 18) from hS 18 (by decide)) (by decide)
theorem gF19_0 (hD : b + 31 ≤ a ∨ a + 31 ≤ b) (hT : RowSh sh b) : e_gf (mk sh (gl M a 31 R)) (b + 19) 8 0 = some (.int (M.1 (b + 19) 0)) := gfI_for (k := 19) hD (show shp sh (b + 19) = some (rowE b 19) from hT 19 (by decide)) (by decide) rfl
theorem gF19_1 (hD : b + 31 ≤ a ∨ a + 31 ≤ b) (hT : RowSh sh b) : e_gf (mk sh (gl M a 31 R)) (b + 19) 8 1 = some (.int (M.1 (b + 19) 1)) := gfI_for (k := 19) hD (show shp sh (b + 19) = some (rowE b 19) from hT 19 (by decide)) (by decide) rfl
theorem gF19_2 (hD : b + 31 ≤ a ∨ a + 31 ≤ b) (hT : RowSh sh b) : e_gf (mk sh (gl M a 31 R)) (b + 19) 8 2 = some (.int (M.1 (b + 19) 2)) := gfI_for (k := 19) hD (show shp sh (b + 19) = some (rowE b 19) from hT 19 (by decide)) (by decide) rfl
theorem gF19_3 (hD : b + 31 ≤ a ∨ a + 31 ≤ b) (hT : RowSh sh b) : e_gf (mk sh (gl M a 31 R)) (b + 19) 8 3 = some (.int (M.1 (b + 19) 3)) := gfI_for (k := 19) hD (show shp sh (b + 19) = some (rowE b 19) from hT 19 (by decide)) (by decide) rfl
theorem gF19_4 (hD : b + 31 ≤ a ∨ a + 31 ≤ b) (hT : RowSh sh b) : e_gf (mk sh (gl M a 31 R)) (b + 19) 8 4 = some (.int (M.1 (b + 19) 4)) := gfI_for (k := 19) hD (show shp sh (b + 19) = some (rowE b 19) from hT 19 (by decide)) (by decide) rfl
theorem gF19_5 (hD : b + 31 ≤ a ∨ a + 31 ≤ b) (hT : RowSh sh b) : e_gf (mk sh (gl M a 31 R)) (b + 19) 8 5 = some (.int (M.1 (b + 19) 5)) := gfI_for (k := 19) hD (show shp sh (b + 19) = some (rowE b 19) from hT 19 (by decide)) (by decide) rfl
theorem gF19_6 (hT : RowSh sh b) : e_gf (mk sh (gl M a 31 R)) (b + 19) 8 6 = some (.ref (b + 20)) := gfR_for (k := 19) (show shp sh (b + 19) = some (rowE b 19) from hT 19 (by decide)) rfl
theorem gF19_7 (hT : RowSh sh b) : e_gf (mk sh (gl M a 31 R)) (b + 19) 8 7 = some (.ref (b + 21)) := gfR_for (k := 19) (show shp sh (b + 19) = some (rowE b 19) from hT 19 (by decide)) rfl
theorem gF19_8 (hT : RowSh sh b) : e_gf (mk sh (gl M a 31 R)) (b + 19) 8 8 = some (.ref (b + 22)) := gfR_for (k := 19) (show shp sh (b + 19) = some (rowE b 19) from hT 19 (by decide)) rfl
theorem gF19_9 (hT : RowSh sh b) : e_gf (mk sh (gl M a 31 R)) (b + 19) 8 9 = some (.ref (b + 23)) := gfR_for (k := 19) (show shp sh (b + 19) = some (rowE b 19) from hT 19 (by decide)) rfl
theorem gF19_10 (hT : RowSh sh b) : e_gf (mk sh (gl M a 31 R)) (b + 19) 8 10 = some (.ref (b + 24)) := gfR_for (k := 19) (show shp sh (b + 19) = some (rowE b 19) from hT 19 (by decide)) rfl
theorem gF19_11 (hT : RowSh sh b) : e_gf (mk sh (gl M a 31 R)) (b + 19) 8 11 = some (.ref (b + 25)) := gfR_for (k := 19) (show shp sh (b + 19) = some (rowE b 19) from hT 19 (by decide)) rfl
theorem cF20 (hD : b + 31 ≤ a ∨ a + 31 ≤ b) (hS : RowSh sh a) (hT : RowSh sh b) : e_int sc 1003 [.ref (b + 20), .int 0, .ref (a + 20), .int 0, .int 8] (mk sh (gl M a 31 R)) = some (none, mk sh (gl M a 31 (mR R 20 (cpA 8 (M.2.1 (b + 20)) (R.2.1 20))))) := cp_for (k := 20) hD rfl (by decide) (show shp sh (b + 20) = some (rowE b 20) from hT 20 (by decide)) (show shp sh (a + 20) = some (rowE a 20) from hS 20 (by decide)) (by decide)
theorem cF21 (hD : b + 31 ≤ a ∨ a + 31 ≤ b) (hS : RowSh sh a) (hT : RowSh sh b) : e_int sc 1003 [.ref (b + 21), .int 0, .ref (a + 21), .int 0, .int 8] (mk sh (gl M a 31 R)) = some (none, mk sh (gl M a 31 (mR R 21 (cpA 8 (M.2.1 (b + 21)) (R.2.1 21))))) := cp_for (k := 21) hD rfl (by decide) (show shp sh (b + 21) = some (rowE b 21) from hT 21 (by decide)) (show shp sh (a + 21) = some (rowE a 21) from hS 21 (by decide)) (by decide)
theorem cF22 (hD : b + 31 ≤ a ∨ a + 31 ≤ b) (hS : RowSh sh a) (hT : RowSh sh b) : e_int sc 1003 [.ref (b + 22), .int 0, .ref (a + 22), .int 0, .int 16] (mk sh (gl M a 31 R)) = some (none, mk sh (gl M a 31 (mR R 22 (cpA 16 (M.2.1 (b + 22)) (R.2.1 22))))) := cp_for (k := 22) hD rfl (by decide) (show shp sh (b + 22) = some (rowE b 22) from hT 22 (by decide)) (show shp sh (a + 22) = some (rowE a 22) from hS 22 (by decide)) (by decide)
theorem cF23 (hD : b + 31 ≤ a ∨ a + 31 ≤ b) (hS : RowSh sh a) (hT : RowSh sh b) : e_int sc 1003 [.ref (b + 23), .int 0, .ref (a + 23), .int 0, .int 8] (mk sh (gl M a 31 R)) = some (none, mk sh (gl M a 31 (mR R 23 (cpA 8 (M.2.1 (b + 23)) (R.2.1 23))))) := cp_for (k := 23) hD rfl (by decide) (show shp sh (b + 23) = some (rowE b 23) from hT 23 (by decide)) (show shp sh (a + 23) = some (rowE a 23) from hS 23 (by decide)) (by decide)
theorem cF24 (hD : b + 31 ≤ a ∨ a + 31 ≤ b) (hS : RowSh sh a) (hT : RowSh sh b) : e_int sc 1003 [.ref (b + 24), .int 0, .ref (a + 24), .int 0, .int 8] (mk sh (gl M a 31 R)) = some (none, mk sh (gl M a 31 (mR R 24 (cpA 8 (M.2.1 (b + 24)) (R.2.1 24))))) := cp_for (k := 24) hD rfl (by decide) (show shp sh (b + 24) = some (rowE b 24) from hT 24 (by decide)) (show shp sh (a + 24) = some (rowE a 24) from hS 24 (by decide)) (by decide)
theorem cF25 (hD : b + 31 ≤ a ∨ a + 31 ≤ b) (hS : RowSh sh a) (hT : RowSh sh b) : e_int sc 1003 [.ref (b + 25), .int 0, .ref (a + 25), .int 0, .int 8] (mk sh (gl M a 31 R)) = some (none, mk sh (gl M a 31 (mR R 25 (cpA 8 (M.2.1 (b + 25)) (R.2.1 25))))) := cp_for (k := 25) hD rfl (by decide) (show shp sh (b + 25) = some (rowE b 25) from hT 25 (by decide)) (show shp sh (a + 25) = some (rowE a 25) from hS 25 (by decide)) (by decide)
theorem gF26_0 (hT : RowSh sh b) : e_gf (mk sh (gl M a 31 R)) (b + 26) 10 0 = some (.ref (b + 27)) := gfR_for (k := 26) (show shp sh (b + 26) = some (rowE b 26) from hT 26 (by decide)) rfl
theorem gF26_1 (hD : b + 31 ≤ a ∨ a + 31 ≤ b) (hT : RowSh sh b) : e_gf (mk sh (gl M a 31 R)) (b + 26) 10 1 = some (.int (M.1 (b + 26) 1)) := gfI_for (k := 26) hD (show shp sh (b + 26) = some (rowE b 26) from hT 26 (by decide)) (by decide) rfl
theorem gF26_2 (hD : b + 31 ≤ a ∨ a + 31 ≤ b) (hT : RowSh sh b) : e_gf (mk sh (gl M a 31 R)) (b + 26) 10 2 = some (.int (M.1 (b + 26) 2)) := gfI_for (k := 26) hD (show shp sh (b + 26) = some (rowE b 26) from hT 26 (by decide)) (by decide) rfl
theorem gF26_3 (hD : b + 31 ≤ a ∨ a + 31 ≤ b) (hT : RowSh sh b) : e_gf (mk sh (gl M a 31 R)) (b + 26) 10 3 = some (.int (M.1 (b + 26) 3)) := gfI_for (k := 26) hD (show shp sh (b + 26) = some (rowE b 26) from hT 26 (by decide)) (by decide) rfl
theorem gF26_4 (hD : b + 31 ≤ a ∨ a + 31 ≤ b) (hT : RowSh sh b) : e_gf (mk sh (gl M a 31 R)) (b + 26) 10 4 = some (.int (M.1 (b + 26) 4)) := gfI_for (k := 26) hD (show shp sh (b + 26) = some (rowE b 26) from hT 26 (by decide)) (by decide) rfl
theorem cF27 (hD : b + 31 ≤ a ∨ a + 31 ≤ b) (hS : RowSh sh a) (hT : RowSh sh b) : e_int sc 1003 [.ref (b + 27), .int 0, .ref (a + 27), .int 0, .int 180] (mk sh (gl M a 31 R)) = some (none, mk sh (gl M a 31 (mR R 27 (cpA 180 (M.2.1 (b + 27)) (R.2.1 27))))) := cp_for (k := 27) hD rfl (by decide) (show shp sh (b + 27) = some (rowE b 27) from hT 27 (by decide)) (show shp sh (a + 27) = some (rowE a 27) from hS 27 (by decide)) (by decide)
theorem lF27 (hT : RowSh sh b) : e_arr sc (mk sh M) (b + 27) 0 = some (180, M.2.1 (b + 27)) := arr_mk (show shp sh (b + 27) = some (rowE b 27) from hT 27 (by decide))
theorem gF28_0 (hT : RowSh sh b) : e_gf (mk sh (gl M a 31 R)) (b + 28) 10 0 = some (.ref (b + 29)) := gfR_for (k := 28) (show shp sh (b + 28) = some (rowE b 28) from hT 28 (by decide)) rfl
theorem gF28_1 (hD : b + 31 ≤ a ∨ a + 31 ≤ b) (hT : RowSh sh b) : e_gf (mk sh (gl M a 31 R)) (b + 28) 10 1 = some (.int (M.1 (b + 28) 1)) := gfI_for (k := 28) hD (show shp sh (b + 28) = some (rowE b 28) from hT 28 (by decide)) (by decide) rfl
theorem gF28_2 (hD : b + 31 ≤ a ∨ a + 31 ≤ b) (hT : RowSh sh b) : e_gf (mk sh (gl M a 31 R)) (b + 28) 10 2 = some (.int (M.1 (b + 28) 2)) := gfI_for (k := 28) hD (show shp sh (b + 28) = some (rowE b 28) from hT 28 (by decide)) (by decide) rfl
theorem gF28_3 (hD : b + 31 ≤ a ∨ a + 31 ≤ b) (hT : RowSh sh b) : e_gf (mk sh (gl M a 31 R)) (b + 28) 10 3 = some (.int (M.1 (b + 28) 3)) := gfI_for (k := 28) hD (show shp sh (b + 28) = some (rowE b 28) from hT 28 (by decide)) (by decide) rfl
theorem gF28_4 (hD : b + 31 ≤ a ∨ a + 31 ≤ b) (hT : RowSh sh b) : e_gf (mk sh (gl M a 31 R)) (b + 28) 10 4 = some (.int (M.1 (b + 28) 4)) := gfI_for (k := 28) hD (show shp sh (b + 28) = some (rowE b 28) from hT 28 (by decide)) (by decide) rfl
theorem cF29 (hD : b + 31 ≤ a ∨ a + 31 ≤ b) (hS : RowSh sh a) (hT : RowSh sh b) : e_int sc 1003 [.ref (b + 29), .int 0, .ref (a + 29), .int 0, .int 200] (mk sh (gl M a 31 R)) = some (none, mk sh (gl M a 31 (mR R 29 (cpA 200 (M.2.1 (b + 29)) (R.2.1 29))))) := cp_for (k := 29) hD rfl (by decide) (show shp sh (b + 29) = some (rowE b 29) from hT 29 (by decide)) (show shp sh (a + 29) = some (rowE a 29) from hS 29 (by decide)) (by decide)
theorem lF29 (hT : RowSh sh b) : e_arr sc (mk sh M) (b + 29) 0 = some (200, M.2.1 (b + 29)) := arr_mk (show shp sh (b + 29) = some (rowE b 29) from hT 29 (by decide))
end FOR
