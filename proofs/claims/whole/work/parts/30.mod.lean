/-! THE REFERENCE at the ref a: 15 cells; its memory W is read from its own zero on -/
def modE (a k : Nat) : sE := match k with
  | 0 => .inl (12, [0, (a + 1) + 3, 0, 0, 0, (a + 2) + 3, (a + 3) + 3, (a + 4) + 3, (a + 5) + 3, (a + 6) + 3, (a + 7) + 3, 0, 0, 0, (a + 8) + 3, (a + 9) + 3, (a + 10) + 3, (a + 11) + 3, 0, 0, 0, 0, 0, 0, 0, 0, 0, 0, 0, (a + 12) + 3, (a + 13) + 3, 0, 0, 0, 1, (a + 14) + 3])
  | 1 => .inr (.inl (1, 240))
  | 2 => .inr (.inl (0, 5))
  | 3 => .inr (.inl (0, 5))
  | 4 => .inr (.inl (0, 32))
  | 5 => .inr (.inl (0, 4))
  | 6 => .inr (.inl (0, 400))
  | 7 => .inr (.inl (0, 5))
  | 8 => .inr (.inl (0, 1922))
  | 9 => .inr (.inl (0, 1922))
  | 10 => .inr (.inl (0, 1922))
  | 11 => .inr (.inl (0, 76880))
  | 12 => .inr (.inl (0, 3300))
  | 13 => .inr (.inl (0, 3300))
  | _ => .inr (.inl (0, 40))
def ModSh (sh : List sE) (a : Nat) : Prop := ∀ k, k < 15 → shp sh (a + k) = some (modE a k)
/-- one of the two rows of numbers: what is now, a trial -/
def isW (w : Nat) : Prop := w = 8 ∨ w = 9
section MOD
variable {sc : aS} {sh : List sE} {M W : aM} {a : Nat}
theorem gfI_mod {k ci j : Nat} {fl : List Nat} (hs : shp sh (a + k) = some (.inl (ci, fl))) (hk : k < 15) (hj : fl[j]? = some 0) : e_gf (mk sh (gl M a 15 W)) (a + k) ci j = some (.int (W.1 k j)) := by
  rw [gf_mk hs, hj]
  show some (Value.int ((gl M a 15 W).1 (a + k) j)) = _
  rw [gl_I hk]
theorem gfR_mod {k ci j r : Nat} {fl : List Nat} (hs : shp sh (a + k) = some (.inl (ci, fl))) (hj : fl[j]? = some (r + 3)) : e_gf (mk sh (gl M a 15 W)) (a + k) ci j = some (.ref r) := by
  rw [gf_mk hs, hj]
  rfl
theorem pf_mod {k ci j : Nat} {fl : List Nat} {v : Int32} (hs : shp sh (a + k) = some (.inl (ci, fl))) (hk : k < 15) (hj : fl[j]? = some 0) (hf : e_fit (pTy ci j) (.int v) = true) : e_pf (mk sh (gl M a 15 W)) (a + k) ci j (.int v) = some (mk sh (gl M a 15 (mI W k j v))) := by
  rw [pfI_mk hs hj hf, gl_mI hk]
theorem pfz_mod {k ci j : Nat} {fl : List Nat} {v : Int32} (hs : shp sh (a + k) = some (.inl (ci, fl))) (hk : k < 15) (hj : fl[j]? = some 0) (hf : pTy ci j = .boolean) : e_pf (mk sh (gl M a 15 W)) (a + k) ci j (.int v) = if v = 0 ∨ v = 1 then some (mk sh (gl M a 15 (mI W k j v))) else none := by
  by_cases hv : v = 0 ∨ v = 1
  · rw [if_pos hv]
    exact pf_mod hs hk hj (by rw [hf]; rcases hv with rfl | rfl <;> rfl)
  · rw [if_neg hv]
    unfold e_pf
    rw [e_c_mk, hs, hf]
    have : e_fit .boolean (.int v) = false := by
      simp only [e_fit, Bool.or_eq_false_iff, beq_eq_false_iff_ne]
      exact ⟨fun q => hv (Or.inl q), fun q => hv (Or.inr q)⟩
    simp only [Option.map_some, mkc, this, Bool.and_false, cond_false]
theorem ia_mod {k tc n : Nat} {j : Int32} (hs : shp sh (a + k) = some (.inr (.inl (tc, n)))) (hk : k < 15) : e_ia sc (mk sh (gl M a 15 W)) (a + k) tc j = if ¬ (j < 0 ∨ n ≤ j.toNatClampNeg) then some (W.2.1 k j.toNatClampNeg) else none := by
  rw [ia_mk hs, gl_A hk]
theorem is_mod {k n : Nat} {j v : Int32} (hs : shp sh (a + k) = some (.inr (.inl (0, n)))) (hk : k < 15) : e_is (mk sh (gl M a 15 W)) (a + k) j v = if ¬ (j < 0 ∨ n ≤ j.toNatClampNeg) then some (mk sh (gl M a 15 (mA W k j.toNatClampNeg v))) else none := by
  rw [is_mk hs, gl_mA hk]
theorem bs_mk {M : aM} {a n : Nat} {j v : Int32} (hs : shp sh a = some (.inr (.inl (1, n)))) : e_bs (mk sh M) a j v = if ¬ (j < 0 ∨ n ≤ j.toNatClampNeg) then some (mk sh (mA M a j.toNatClampNeg (vp_nar .byte v))) else none := by
  unfold e_bs
  rw [e_c_mk, hs]
  simp only [Option.map_some, mkc]
  split
  · congr 1
    refine mk_set0 hs ?_ (fun b t hb => mkc_offA t hb)
    simp only [mkc]
    congr 4
    funext q
    simp [mA, up2, upd]
  · rfl
theorem shW (hS : ModSh sh a) {w : Nat} (hw : isW w) : shp sh (a + w) = some (.inr (.inl (0, 1922))) := by
  rcases hw with rfl | rfl
  · exact hS 8 (by decide)
  · exact hS 9 (by decide)
theorem lW {w : Nat} (hw : isW w) : w < 15 := by rcases hw with rfl | rfl <;> decide
theorem aW (hS : ModSh sh a) {w : Nat} (hw : isW w) {j : Int32} : e_ia sc (mk sh (gl M a 15 W)) (a + w) 0 j = if ¬ (j < 0 ∨ 1922 ≤ j.toNatClampNeg) then some (W.2.1 w j.toNatClampNeg) else none := ia_mod (shW hS hw) (lW hw)
theorem wW (hS : ModSh sh a) {w : Nat} (hw : isW w) {j v : Int32} : e_is (mk sh (gl M a 15 W)) (a + w) j v = if ¬ (j < 0 ∨ 1922 ≤ j.toNatClampNeg) then some (mk sh (gl M a 15 (mA W w j.toNatClampNeg v))) else none := is_mod (shW hS hw) (lW hw)
theorem gM0 (hS : ModSh sh a) : e_gf (mk sh (gl M a 15 W)) a 12 0 = some (.int (W.1 0 0)) := gfI_mod (k := 0) (show shp sh (a + 0) = some (modE a 0) from hS 0 (by decide)) (by decide) rfl
theorem pM0 (hS : ModSh sh a) {v : Int32} : e_pf (mk sh (gl M a 15 W)) a 12 0 (.int v) = some (mk sh (gl M a 15 (mI W 0 0 v))) := pf_mod (k := 0) (show shp sh (a + 0) = some (modE a 0) from hS 0 (by decide)) (by decide) rfl rfl
theorem gM1 (hS : ModSh sh a) : e_gf (mk sh (gl M a 15 W)) a 12 1 = some (.ref (a + 1)) := gfR_mod (k := 0) (show shp sh (a + 0) = some (modE a 0) from hS 0 (by decide)) rfl
theorem gM2 (hS : ModSh sh a) : e_gf (mk sh (gl M a 15 W)) a 12 2 = some (.int (W.1 0 2)) := gfI_mod (k := 0) (show shp sh (a + 0) = some (modE a 0) from hS 0 (by decide)) (by decide) rfl
theorem pM2 (hS : ModSh sh a) {v : Int32} : e_pf (mk sh (gl M a 15 W)) a 12 2 (.int v) = some (mk sh (gl M a 15 (mI W 0 2 v))) := pf_mod (k := 0) (show shp sh (a + 0) = some (modE a 0) from hS 0 (by decide)) (by decide) rfl rfl
theorem gM3 (hS : ModSh sh a) : e_gf (mk sh (gl M a 15 W)) a 12 3 = some (.int (W.1 0 3)) := gfI_mod (k := 0) (show shp sh (a + 0) = some (modE a 0) from hS 0 (by decide)) (by decide) rfl
theorem pM3 (hS : ModSh sh a) {v : Int32} : e_pf (mk sh (gl M a 15 W)) a 12 3 (.int v) = some (mk sh (gl M a 15 (mI W 0 3 v))) := pf_mod (k := 0) (show shp sh (a + 0) = some (modE a 0) from hS 0 (by decide)) (by decide) rfl rfl
theorem gM4 (hS : ModSh sh a) : e_gf (mk sh (gl M a 15 W)) a 12 4 = some (.int (W.1 0 4)) := gfI_mod (k := 0) (show shp sh (a + 0) = some (modE a 0) from hS 0 (by decide)) (by decide) rfl
theorem pM4 (hS : ModSh sh a) {v : Int32} : e_pf (mk sh (gl M a 15 W)) a 12 4 (.int v) = some (mk sh (gl M a 15 (mI W 0 4 v))) := pf_mod (k := 0) (show shp sh (a + 0) = some (modE a 0) from hS 0 (by decide)) (by decide) rfl rfl
theorem gM5 (hS : ModSh sh a) : e_gf (mk sh (gl M a 15 W)) a 12 5 = some (.ref (a + 2)) := gfR_mod (k := 0) (show shp sh (a + 0) = some (modE a 0) from hS 0 (by decide)) rfl
theorem gM6 (hS : ModSh sh a) : e_gf (mk sh (gl M a 15 W)) a 12 6 = some (.ref (a + 3)) := gfR_mod (k := 0) (show shp sh (a + 0) = some (modE a 0) from hS 0 (by decide)) rfl
theorem gM7 (hS : ModSh sh a) : e_gf (mk sh (gl M a 15 W)) a 12 7 = some (.ref (a + 4)) := gfR_mod (k := 0) (show shp sh (a + 0) = some (modE a 0) from hS 0 (by decide)) rfl
theorem gM8 (hS : ModSh sh a) : e_gf (mk sh (gl M a 15 W)) a 12 8 = some (.ref (a + 5)) := gfR_mod (k := 0) (show shp sh (a + 0) = some (modE a 0) from hS 0 (by decide)) rfl
theorem gM9 (hS : ModSh sh a) : e_gf (mk sh (gl M a 15 W)) a 12 9 = some (.ref (a + 6)) := gfR_mod (k := 0) (show shp sh (a + 0) = some (modE a 0) from hS 0 (by decide)) rfl
theorem gM10 (hS : ModSh sh a) : e_gf (mk sh (gl M a 15 W)) a 12 10 = some (.ref (a + 7)) := gfR_mod (k := 0) (show shp sh (a + 0) = some (modE a 0) from hS 0 (by decide)) rfl
theorem gM11 (hS : ModSh sh a) : e_gf (mk sh (gl M a 15 W)) a 12 11 = some (.int (W.1 0 11)) := gfI_mod (k := 0) (show shp sh (a + 0) = some (modE a 0) from hS 0 (by decide)) (by decide) rfl
theorem pM11 (hS : ModSh sh a) {v : Int32} : e_pf (mk sh (gl M a 15 W)) a 12 11 (.int v) = some (mk sh (gl M a 15 (mI W 0 11 v))) := pf_mod (k := 0) (show shp sh (a + 0) = some (modE a 0) from hS 0 (by decide)) (by decide) rfl rfl
theorem gM12 (hS : ModSh sh a) : e_gf (mk sh (gl M a 15 W)) a 12 12 = some (.int (W.1 0 12)) := gfI_mod (k := 0) (show shp sh (a + 0) = some (modE a 0) from hS 0 (by decide)) (by decide) rfl
theorem pM12 (hS : ModSh sh a) {v : Int32} : e_pf (mk sh (gl M a 15 W)) a 12 12 (.int v) = some (mk sh (gl M a 15 (mI W 0 12 v))) := pf_mod (k := 0) (show shp sh (a + 0) = some (modE a 0) from hS 0 (by decide)) (by decide) rfl rfl
theorem gM13 (hS : ModSh sh a) : e_gf (mk sh (gl M a 15 W)) a 12 13 = some (.int (W.1 0 13)) := gfI_mod (k := 0) (show shp sh (a + 0) = some (modE a 0) from hS 0 (by decide)) (by decide) rfl
theorem pM13 (hS : ModSh sh a) {v : Int32} : e_pf (mk sh (gl M a 15 W)) a 12 13 (.int v) = some (mk sh (gl M a 15 (mI W 0 13 v))) := pf_mod (k := 0) (show shp sh (a + 0) = some (modE a 0) from hS 0 (by decide)) (by decide) rfl rfl
theorem gM14 (hS : ModSh sh a) : e_gf (mk sh (gl M a 15 W)) a 12 14 = some (.ref (a + 8)) := gfR_mod (k := 0) (show shp sh (a + 0) = some (modE a 0) from hS 0 (by decide)) rfl
theorem gM15 (hS : ModSh sh a) : e_gf (mk sh (gl M a 15 W)) a 12 15 = some (.ref (a + 9)) := gfR_mod (k := 0) (show shp sh (a + 0) = some (modE a 0) from hS 0 (by decide)) rfl
theorem gM16 (hS : ModSh sh a) : e_gf (mk sh (gl M a 15 W)) a 12 16 = some (.ref (a + 10)) := gfR_mod (k := 0) (show shp sh (a + 0) = some (modE a 0) from hS 0 (by decide)) rfl
theorem gM17 (hS : ModSh sh a) : e_gf (mk sh (gl M a 15 W)) a 12 17 = some (.ref (a + 11)) := gfR_mod (k := 0) (show shp sh (a + 0) = some (modE a 0) from hS 0 (by decide)) rfl
theorem gM18 (hS : ModSh sh a) : e_gf (mk sh (gl M a 15 W)) a 12 18 = some (.int (W.1 0 18)) := gfI_mod (k := 0) (show shp sh (a + 0) = some (modE a 0) from hS 0 (by decide)) (by decide) rfl
theorem pM18 (hS : ModSh sh a) {v : Int32} : e_pf (mk sh (gl M a 15 W)) a 12 18 (.int v) = some (mk sh (gl M a 15 (mI W 0 18 v))) := pf_mod (k := 0) (show shp sh (a + 0) = some (modE a 0) from hS 0 (by decide)) (by decide) rfl rfl
theorem gM19 (hS : ModSh sh a) : e_gf (mk sh (gl M a 15 W)) a 12 19 = some (.int (W.1 0 19)) := gfI_mod (k := 0) (show shp sh (a + 0) = some (modE a 0) from hS 0 (by decide)) (by decide) rfl
theorem pM19 (hS : ModSh sh a) {v : Int32} : e_pf (mk sh (gl M a 15 W)) a 12 19 (.int v) = some (mk sh (gl M a 15 (mI W 0 19 v))) := pf_mod (k := 0) (show shp sh (a + 0) = some (modE a 0) from hS 0 (by decide)) (by decide) rfl rfl
theorem gM20 (hS : ModSh sh a) : e_gf (mk sh (gl M a 15 W)) a 12 20 = some (.int (W.1 0 20)) := gfI_mod (k := 0) (show shp sh (a + 0) = some (modE a 0) from hS 0 (by decide)) (by decide) rfl
theorem pM20 (hS : ModSh sh a) {v : Int32} : e_pf (mk sh (gl M a 15 W)) a 12 20 (.int v) = if v = 0 ∨ v = 1 then some (mk sh (gl M a 15 (mI W 0 20 v))) else none := pfz_mod (k := 0) (show shp sh (a + 0) = some (modE a 0) from hS 0 (by decide)) (by decide) rfl rfl
theorem gM21 (hS : ModSh sh a) : e_gf (mk sh (gl M a 15 W)) a 12 21 = some (.int (W.1 0 21)) := gfI_mod (k := 0) (show shp sh (a + 0) = some (modE a 0) from hS 0 (by decide)) (by decide) rfl
theorem pM21 (hS : ModSh sh a) {v : Int32} : e_pf (mk sh (gl M a 15 W)) a 12 21 (.int v) = if v = 0 ∨ v = 1 then some (mk sh (gl M a 15 (mI W 0 21 v))) else none := pfz_mod (k := 0) (show shp sh (a + 0) = some (modE a 0) from hS 0 (by decide)) (by decide) rfl rfl
theorem gM22 (hS : ModSh sh a) : e_gf (mk sh (gl M a 15 W)) a 12 22 = some (.int (W.1 0 22)) := gfI_mod (k := 0) (show shp sh (a + 0) = some (modE a 0) from hS 0 (by decide)) (by decide) rfl
theorem pM22 (hS : ModSh sh a) {v : Int32} : e_pf (mk sh (gl M a 15 W)) a 12 22 (.int v) = some (mk sh (gl M a 15 (mI W 0 22 v))) := pf_mod (k := 0) (show shp sh (a + 0) = some (modE a 0) from hS 0 (by decide)) (by decide) rfl rfl
theorem gM23 (hS : ModSh sh a) : e_gf (mk sh (gl M a 15 W)) a 12 23 = some (.int (W.1 0 23)) := gfI_mod (k := 0) (show shp sh (a + 0) = some (modE a 0) from hS 0 (by decide)) (by decide) rfl
theorem pM23 (hS : ModSh sh a) {v : Int32} : e_pf (mk sh (gl M a 15 W)) a 12 23 (.int v) = some (mk sh (gl M a 15 (mI W 0 23 v))) := pf_mod (k := 0) (show shp sh (a + 0) = some (modE a 0) from hS 0 (by decide)) (by decide) rfl rfl
theorem gM24 (hS : ModSh sh a) : e_gf (mk sh (gl M a 15 W)) a 12 24 = some (.int (W.1 0 24)) := gfI_mod (k := 0) (show shp sh (a + 0) = some (modE a 0) from hS 0 (by decide)) (by decide) rfl
theorem pM24 (hS : ModSh sh a) {v : Int32} : e_pf (mk sh (gl M a 15 W)) a 12 24 (.int v) = some (mk sh (gl M a 15 (mI W 0 24 v))) := pf_mod (k := 0) (show shp sh (a + 0) = some (modE a 0) from hS 0 (by decide)) (by decide) rfl rfl
theorem gM25 (hS : ModSh sh a) : e_gf (mk sh (gl M a 15 W)) a 12 25 = some (.int (W.1 0 25)) := gfI_mod (k := 0) (show shp sh (a + 0) = some (modE a 0) from hS 0 (by decide)) (by decide) rfl
theorem pM25 (hS : ModSh sh a) {v : Int32} : e_pf (mk sh (gl M a 15 W)) a 12 25 (.int v) = some (mk sh (gl M a 15 (mI W 0 25 v))) := pf_mod (k := 0) (show shp sh (a + 0) = some (modE a 0) from hS 0 (by decide)) (by decide) rfl rfl
theorem gM26 (hS : ModSh sh a) : e_gf (mk sh (gl M a 15 W)) a 12 26 = some (.int (W.1 0 26)) := gfI_mod (k := 0) (show shp sh (a + 0) = some (modE a 0) from hS 0 (by decide)) (by decide) rfl
theorem pM26 (hS : ModSh sh a) {v : Int32} : e_pf (mk sh (gl M a 15 W)) a 12 26 (.int v) = some (mk sh (gl M a 15 (mI W 0 26 v))) := pf_mod (k := 0) (show shp sh (a + 0) = some (modE a 0) from hS 0 (by decide)) (by decide) rfl rfl
theorem gM27 (hS : ModSh sh a) : e_gf (mk sh (gl M a 15 W)) a 12 27 = some (.int (W.1 0 27)) := gfI_mod (k := 0) (show shp sh (a + 0) = some (modE a 0) from hS 0 (by decide)) (by decide) rfl
theorem pM27 (hS : ModSh sh a) {v : Int32} : e_pf (mk sh (gl M a 15 W)) a 12 27 (.int v) = some (mk sh (gl M a 15 (mI W 0 27 v))) := pf_mod (k := 0) (show shp sh (a + 0) = some (modE a 0) from hS 0 (by decide)) (by decide) rfl rfl
theorem gM28 (hS : ModSh sh a) : e_gf (mk sh (gl M a 15 W)) a 12 28 = some (.int (W.1 0 28)) := gfI_mod (k := 0) (show shp sh (a + 0) = some (modE a 0) from hS 0 (by decide)) (by decide) rfl
theorem pM28 (hS : ModSh sh a) {v : Int32} : e_pf (mk sh (gl M a 15 W)) a 12 28 (.int v) = some (mk sh (gl M a 15 (mI W 0 28 v))) := pf_mod (k := 0) (show shp sh (a + 0) = some (modE a 0) from hS 0 (by decide)) (by decide) rfl rfl
theorem gM29 (hS : ModSh sh a) : e_gf (mk sh (gl M a 15 W)) a 12 29 = some (.ref (a + 12)) := gfR_mod (k := 0) (show shp sh (a + 0) = some (modE a 0) from hS 0 (by decide)) rfl
theorem gM30 (hS : ModSh sh a) : e_gf (mk sh (gl M a 15 W)) a 12 30 = some (.ref (a + 13)) := gfR_mod (k := 0) (show shp sh (a + 0) = some (modE a 0) from hS 0 (by decide)) rfl
theorem gM31 (hS : ModSh sh a) : e_gf (mk sh (gl M a 15 W)) a 12 31 = some (.int (W.1 0 31)) := gfI_mod (k := 0) (show shp sh (a + 0) = some (modE a 0) from hS 0 (by decide)) (by decide) rfl
theorem pM31 (hS : ModSh sh a) {v : Int32} : e_pf (mk sh (gl M a 15 W)) a 12 31 (.int v) = some (mk sh (gl M a 15 (mI W 0 31 v))) := pf_mod (k := 0) (show shp sh (a + 0) = some (modE a 0) from hS 0 (by decide)) (by decide) rfl rfl
theorem gM32 (hS : ModSh sh a) : e_gf (mk sh (gl M a 15 W)) a 12 32 = some (.int (W.1 0 32)) := gfI_mod (k := 0) (show shp sh (a + 0) = some (modE a 0) from hS 0 (by decide)) (by decide) rfl
theorem pM32 (hS : ModSh sh a) {v : Int32} : e_pf (mk sh (gl M a 15 W)) a 12 32 (.int v) = some (mk sh (gl M a 15 (mI W 0 32 v))) := pf_mod (k := 0) (show shp sh (a + 0) = some (modE a 0) from hS 0 (by decide)) (by decide) rfl rfl
theorem gM33 (hS : ModSh sh a) : e_gf (mk sh (gl M a 15 W)) a 12 33 = some (.int (W.1 0 33)) := gfI_mod (k := 0) (show shp sh (a + 0) = some (modE a 0) from hS 0 (by decide)) (by decide) rfl
theorem pM33 (hS : ModSh sh a) {v : Int32} : e_pf (mk sh (gl M a 15 W)) a 12 33 (.int v) = some (mk sh (gl M a 15 (mI W 0 33 v))) := pf_mod (k := 0) (show shp sh (a + 0) = some (modE a 0) from hS 0 (by decide)) (by decide) rfl rfl
theorem gM35 (hS : ModSh sh a) : e_gf (mk sh (gl M a 15 W)) a 12 35 = some (.ref (a + 14)) := gfR_mod (k := 0) (show shp sh (a + 0) = some (modE a 0) from hS 0 (by decide)) rfl
theorem cM (hS : ModSh sh a) : e_isC (mk sh (gl M a 15 W)) a 12 = true := isC_mk (a := a + 0) (show shp sh (a + 0) = some (modE a 0) from hS 0 (by decide))
theorem aM1 (hS : ModSh sh a) {j : Int32} : e_ia sc (mk sh (gl M a 15 W)) (a + 1) 1 j = if ¬ (j < 0 ∨ 240 ≤ j.toNatClampNeg) then some (W.2.1 1 j.toNatClampNeg) else none := ia_mod (k := 1) (show shp sh (a + 1) = some (modE a 1) from hS 1 (by decide)) (by decide)
theorem wM1 (hS : ModSh sh a) {j v : Int32} : e_bs (mk sh (gl M a 15 W)) (a + 1) j v = if ¬ (j < 0 ∨ 240 ≤ j.toNatClampNeg) then some (mk sh (gl M a 15 (mA W 1 j.toNatClampNeg (vp_nar .byte v)))) else none := by rw [bs_mk (show shp sh (a + 1) = some (modE a 1) from hS 1 (by decide)), gl_mA (by decide)]
theorem aM2 (hS : ModSh sh a) {j : Int32} : e_ia sc (mk sh (gl M a 15 W)) (a + 2) 0 j = if ¬ (j < 0 ∨ 5 ≤ j.toNatClampNeg) then some (W.2.1 2 j.toNatClampNeg) else none := ia_mod (k := 2) (show shp sh (a + 2) = some (modE a 2) from hS 2 (by decide)) (by decide)
theorem wM2 (hS : ModSh sh a) {j v : Int32} : e_is (mk sh (gl M a 15 W)) (a + 2) j v = if ¬ (j < 0 ∨ 5 ≤ j.toNatClampNeg) then some (mk sh (gl M a 15 (mA W 2 j.toNatClampNeg v))) else none := is_mod (k := 2) (show shp sh (a + 2) = some (modE a 2) from hS 2 (by decide)) (by decide)
theorem aM3 (hS : ModSh sh a) {j : Int32} : e_ia sc (mk sh (gl M a 15 W)) (a + 3) 0 j = if ¬ (j < 0 ∨ 5 ≤ j.toNatClampNeg) then some (W.2.1 3 j.toNatClampNeg) else none := ia_mod (k := 3) (show shp sh (a + 3) = some (modE a 3) from hS 3 (by decide)) (by decide)
theorem wM3 (hS : ModSh sh a) {j v : Int32} : e_is (mk sh (gl M a 15 W)) (a + 3) j v = if ¬ (j < 0 ∨ 5 ≤ j.toNatClampNeg) then some (mk sh (gl M a 15 (mA W 3 j.toNatClampNeg v))) else none := is_mod (k := 3) (show shp sh (a + 3) = some (modE a 3) from hS 3 (by decide)) (by decide)
theorem aM4 (hS : ModSh sh a) {j : Int32} : e_ia sc (mk sh (gl M a 15 W)) (a + 4) 0 j = if ¬ (j < 0 ∨ 32 ≤ j.toNatClampNeg) then some (W.2.1 4 j.toNatClampNeg) else none := ia_mod (k := 4) (show shp sh (a + 4) = some (modE a 4) from hS 4 (by decide)) (by decide)
theorem wM4 (hS : ModSh sh a) {j v : Int32} : e_is (mk sh (gl M a 15 W)) (a + 4) j v = if ¬ (j < 0 ∨ 32 ≤ j.toNatClampNeg) then some (mk sh (gl M a 15 (mA W 4 j.toNatClampNeg v))) else none := is_mod (k := 4) (show shp sh (a + 4) = some (modE a 4) from hS 4 (by decide)) (by decide)
theorem aM5 (hS : ModSh sh a) {j : Int32} : e_ia sc (mk sh (gl M a 15 W)) (a + 5) 0 j = if ¬ (j < 0 ∨ 4 ≤ j.toNatClampNeg) then some (W.2.1 5 j.toNatClampNeg) else none := ia_mod (k := 5) (show shp sh (a + 5) = some (modE a 5) from hS 5 (by decide)) (by decide)
theorem wM5 (hS : ModSh sh a) {j v : Int32} : e_is (mk sh (gl M a 15 W)) (a + 5) j v = if ¬ (j < 0 ∨ 4 ≤ j.toNatClampNeg) then some (mk sh (gl M a 15 (mA W 5 j.toNatClampNeg v))) else none := is_mod (k := 5) (show shp sh (a + 5) = some (modE a 5) from hS 5 (by decide)) (by decide)
theorem aM6 (hS : ModSh sh a) {j : Int32} : e_ia sc (mk sh (gl M a 15 W)) (a + 6) 0 j = if ¬ (j < 0 ∨ 400 ≤ j.toNatClampNeg) then some (W.2.1 6 j.toNatClampNeg) else none := ia_mod (k := 6) (show shp sh (a + 6) = some (modE a 6) from hS 6 (by decide)) (by decide)
theorem wM6 (hS : ModSh sh a) {j v : Int32} : e_is (mk sh (gl M a 15 W)) (a + 6) j v = if ¬ (j < 0 ∨ 400 ≤ j.toNatClampNeg) then some (mk sh (gl M a 15 (mA W 6 j.toNatClampNeg v))) else none := is_mod (k := 6) (show shp sh (a + 6) = some (modE a 6) from hS 6 (by decide)) (by decide)
theorem aM7 (hS : ModSh sh a) {j : Int32} : e_ia sc (mk sh (gl M a 15 W)) (a + 7) 0 j = if ¬ (j < 0 ∨ 5 ≤ j.toNatClampNeg) then some (W.2.1 7 j.toNatClampNeg) else none := ia_mod (k := 7) (show shp sh (a + 7) = some (modE a 7) from hS 7 (by decide)) (by decide)
theorem wM7 (hS : ModSh sh a) {j v : Int32} : e_is (mk sh (gl M a 15 W)) (a + 7) j v = if ¬ (j < 0 ∨ 5 ≤ j.toNatClampNeg) then some (mk sh (gl M a 15 (mA W 7 j.toNatClampNeg v))) else none := is_mod (k := 7) (show shp sh (a + 7) = some (modE a 7) from hS 7 (by decide)) (by decide)
theorem aM8 (hS : ModSh sh a) {j : Int32} : e_ia sc (mk sh (gl M a 15 W)) (a + 8) 0 j = if ¬ (j < 0 ∨ 1922 ≤ j.toNatClampNeg) then some (W.2.1 8 j.toNatClampNeg) else none := ia_mod (k := 8) (show shp sh (a + 8) = some (modE a 8) from hS 8 (by decide)) (by decide)
theorem wM8 (hS : ModSh sh a) {j v : Int32} : e_is (mk sh (gl M a 15 W)) (a + 8) j v = if ¬ (j < 0 ∨ 1922 ≤ j.toNatClampNeg) then some (mk sh (gl M a 15 (mA W 8 j.toNatClampNeg v))) else none := is_mod (k := 8) (show shp sh (a + 8) = some (modE a 8) from hS 8 (by decide)) (by decide)
theorem aM9 (hS : ModSh sh a) {j : Int32} : e_ia sc (mk sh (gl M a 15 W)) (a + 9) 0 j = if ¬ (j < 0 ∨ 1922 ≤ j.toNatClampNeg) then some (W.2.1 9 j.toNatClampNeg) else none := ia_mod (k := 9) (show shp sh (a + 9) = some (modE a 9) from hS 9 (by decide)) (by decide)
theorem wM9 (hS : ModSh sh a) {j v : Int32} : e_is (mk sh (gl M a 15 W)) (a + 9) j v = if ¬ (j < 0 ∨ 1922 ≤ j.toNatClampNeg) then some (mk sh (gl M a 15 (mA W 9 j.toNatClampNeg v))) else none := is_mod (k := 9) (show shp sh (a + 9) = some (modE a 9) from hS 9 (by decide)) (by decide)
theorem aM10 (hS : ModSh sh a) {j : Int32} : e_ia sc (mk sh (gl M a 15 W)) (a + 10) 0 j = if ¬ (j < 0 ∨ 1922 ≤ j.toNatClampNeg) then some (W.2.1 10 j.toNatClampNeg) else none := ia_mod (k := 10) (show shp sh (a + 10) = some (modE a 10) from hS 10 (by decide)) (by decide)
theorem wM10 (hS : ModSh sh a) {j v : Int32} : e_is (mk sh (gl M a 15 W)) (a + 10) j v = if ¬ (j < 0 ∨ 1922 ≤ j.toNatClampNeg) then some (mk sh (gl M a 15 (mA W 10 j.toNatClampNeg v))) else none := is_mod (k := 10) (show shp sh (a + 10) = some (modE a 10) from hS 10 (by decide)) (by decide)
theorem aM11 (hS : ModSh sh a) {j : Int32} : e_ia sc (mk sh (gl M a 15 W)) (a + 11) 0 j = if ¬ (j < 0 ∨ 76880 ≤ j.toNatClampNeg) then some (W.2.1 11 j.toNatClampNeg) else none := ia_mod (k := 11) (show shp sh (a + 11) = some (modE a 11) from hS 11 (by decide)) (by decide)
theorem wM11 (hS : ModSh sh a) {j v : Int32} : e_is (mk sh (gl M a 15 W)) (a + 11) j v = if ¬ (j < 0 ∨ 76880 ≤ j.toNatClampNeg) then some (mk sh (gl M a 15 (mA W 11 j.toNatClampNeg v))) else none := is_mod (k := 11) (show shp sh (a + 11) = some (modE a 11) from hS 11 (by decide)) (by decide)
theorem aM12 (hS : ModSh sh a) {j : Int32} : e_ia sc (mk sh (gl M a 15 W)) (a + 12) 0 j = if ¬ (j < 0 ∨ 3300 ≤ j.toNatClampNeg) then some (W.2.1 12 j.toNatClampNeg) else none := ia_mod (k := 12) (show shp sh (a + 12) = some (modE a 12) from hS 12 (by decide)) (by decide)
theorem wM12 (hS : ModSh sh a) {j v : Int32} : e_is (mk sh (gl M a 15 W)) (a + 12) j v = if ¬ (j < 0 ∨ 3300 ≤ j.toNatClampNeg) then some (mk sh (gl M a 15 (mA W 12 j.toNatClampNeg v))) else none := is_mod (k := 12) (show shp sh (a + 12) = some (modE a 12) from hS 12 (by decide)) (by decide)
theorem aM13 (hS : ModSh sh a) {j : Int32} : e_ia sc (mk sh (gl M a 15 W)) (a + 13) 0 j = if ¬ (j < 0 ∨ 3300 ≤ j.toNatClampNeg) then some (W.2.1 13 j.toNatClampNeg) else none := ia_mod (k := 13) (show shp sh (a + 13) = some (modE a 13) from hS 13 (by decide)) (by decide)
theorem wM13 (hS : ModSh sh a) {j v : Int32} : e_is (mk sh (gl M a 15 W)) (a + 13) j v = if ¬ (j < 0 ∨ 3300 ≤ j.toNatClampNeg) then some (mk sh (gl M a 15 (mA W 13 j.toNatClampNeg v))) else none := is_mod (k := 13) (show shp sh (a + 13) = some (modE a 13) from hS 13 (by decide)) (by decide)
theorem aM14 (hS : ModSh sh a) {j : Int32} : e_ia sc (mk sh (gl M a 15 W)) (a + 14) 0 j = if ¬ (j < 0 ∨ 40 ≤ j.toNatClampNeg) then some (W.2.1 14 j.toNatClampNeg) else none := ia_mod (k := 14) (show shp sh (a + 14) = some (modE a 14) from hS 14 (by decide)) (by decide)
theorem wM14 (hS : ModSh sh a) {j v : Int32} : e_is (mk sh (gl M a 15 W)) (a + 14) j v = if ¬ (j < 0 ∨ 40 ≤ j.toNatClampNeg) then some (mk sh (gl M a 15 (mA W 14 j.toNatClampNeg v))) else none := is_mod (k := 14) (show shp sh (a + 14) = some (modE a 14) from hS 14 (by decide)) (by decide)
end MOD
/-! numbers: side conditions by omega -/
theorem dneg {l : Nat} (h : l < 2 ^ 31) : (nI l < 0) = False := eq_false (nI_pos h)
theorem dnle {l n : Nat} (h : l < n) : (n ≤ l) = False := eq_false (by omega)
theorem dne {x y : Nat} (h : ¬ x = y) : (x = y) = False := eq_false h
theorem dcl {l : Nat} (h : l < 2 ^ 31) : (nI l).toNatClampNeg = l := nI_clamp h
theorem b011 (c : Prop) [Decidable c] : ((if c then (0 : Int32) else 1) = 1) = ¬ c := by
  by_cases h : c <;> simp [h]
theorem b101 (c : Prop) [Decidable c] : ((if c then (1 : Int32) else 0) = 1) = c := by
  by_cases h : c <;> simp [h]
theorem orn (c : Prop) : (c ∨ ¬ c) = True := eq_true (Classical.em c)
theorem nor (c : Prop) : (¬ c ∨ c) = True := eq_true ((Classical.em c).symm)
theorem cat0 : e_cat [] = true := cat_le (by decide)
theorem cat1 (x : Value) : e_cat [x] = true := cat_le (by simp)
theorem cat2 (x y : Value) : e_cat [x, y] = true := cat_le (by simp)
theorem cat3 (x y z : Value) : e_cat [x, y, z] = true := cat_le (by simp)
theorem cat4 (x y z u : Value) : e_cat [x, y, z, u] = true := cat_le (by simp)
theorem cl0 : (0 : Int32).toNatClampNeg = 0 := by decide
theorem ng0 : ((0 : Int32) < 0) = False := by decide
theorem cl1 : (1 : Int32).toNatClampNeg = 1 := by decide
theorem ng1 : ((1 : Int32) < 0) = False := by decide
theorem cl2 : (2 : Int32).toNatClampNeg = 2 := by decide
theorem ng2 : ((2 : Int32) < 0) = False := by decide
theorem cl3 : (3 : Int32).toNatClampNeg = 3 := by decide
theorem ng3 : ((3 : Int32) < 0) = False := by decide
theorem cl4 : (4 : Int32).toNatClampNeg = 4 := by decide
theorem ng4 : ((4 : Int32) < 0) = False := by decide
theorem cl5 : (5 : Int32).toNatClampNeg = 5 := by decide
theorem ng5 : ((5 : Int32) < 0) = False := by decide
theorem cl6 : (6 : Int32).toNatClampNeg = 6 := by decide
theorem ng6 : ((6 : Int32) < 0) = False := by decide
theorem cl7 : (7 : Int32).toNatClampNeg = 7 := by decide
theorem ng7 : ((7 : Int32) < 0) = False := by decide
theorem cl8 : (8 : Int32).toNatClampNeg = 8 := by decide
theorem ng8 : ((8 : Int32) < 0) = False := by decide
theorem cl39 : (39 : Int32).toNatClampNeg = 39 := by decide
theorem ng39 : ((39 : Int32) < 0) = False := by decide
theorem cl40 : (40 : Int32).toNatClampNeg = 40 := by decide
theorem ng40 : ((40 : Int32) < 0) = False := by decide
theorem cl60 : (60 : Int32).toNatClampNeg = 60 := by decide
theorem ng60 : ((60 : Int32) < 0) = False := by decide
theorem cl1550 : (1550 : Int32).toNatClampNeg = 1550 := by decide
theorem ng1550 : ((1550 : Int32) < 0) = False := by decide
theorem cl1551 : (1551 : Int32).toNatClampNeg = 1551 := by decide
theorem ng1551 : ((1551 : Int32) < 0) = False := by decide
theorem cl1552 : (1552 : Int32).toNatClampNeg = 1552 := by decide
theorem ng1552 : ((1552 : Int32) < 0) = False := by decide
theorem cl1553 : (1553 : Int32).toNatClampNeg = 1553 := by decide
theorem ng1553 : ((1553 : Int32) < 0) = False := by decide
theorem cl1554 : (1554 : Int32).toNatClampNeg = 1554 := by decide
theorem ng1554 : ((1554 : Int32) < 0) = False := by decide
theorem cl1555 : (1555 : Int32).toNatClampNeg = 1555 := by decide
theorem ng1555 : ((1555 : Int32) < 0) = False := by decide
theorem cl1556 : (1556 : Int32).toNatClampNeg = 1556 := by decide
theorem ng1556 : ((1556 : Int32) < 0) = False := by decide
theorem cl1557 : (1557 : Int32).toNatClampNeg = 1557 := by decide
theorem ng1557 : ((1557 : Int32) < 0) = False := by decide
theorem cl1580 : (1580 : Int32).toNatClampNeg = 1580 := by decide
theorem ng1580 : ((1580 : Int32) < 0) = False := by decide
theorem cl1741 : (1741 : Int32).toNatClampNeg = 1741 := by decide
theorem ng1741 : ((1741 : Int32) < 0) = False := by decide
theorem c2m (x : Nat) : (2 : Int32) * nI x = nI (2 * x) := nI_mul 2 x
theorem c3m (x : Nat) : (3 : Int32) * nI x = nI (3 * x) := nI_mul 3 x
theorem c4m (x : Nat) : (4 : Int32) * nI x = nI (4 * x) := nI_mul 4 x
theorem c5m (x : Nat) : (5 : Int32) * nI x = nI (5 * x) := nI_mul 5 x
theorem c6m (x : Nat) : (6 : Int32) * nI x = nI (6 * x) := nI_mul 6 x
theorem c16m (x : Nat) : (16 : Int32) * nI x = nI (16 * x) := nI_mul 16 x
theorem c25m (x : Nat) : (25 : Int32) * nI x = nI (25 * x) := nI_mul 25 x
theorem c30m (x : Nat) : (30 : Int32) * nI x = nI (30 * x) := nI_mul 30 x
theorem c80m (x : Nat) : (80 : Int32) * nI x = nI (80 * x) := nI_mul 80 x
theorem c1922m (x : Nat) : (1922 : Int32) * nI x = nI (1922 * x) := nI_mul 1922 x
theorem c0a (x : Nat) : (0 : Int32) + nI x = nI x := by rw [Int32.zero_add]
theorem c1a (x : Nat) : (1 : Int32) + nI x = nI (1 + x) := nI_add 1 x
theorem c8a (x : Nat) : (8 : Int32) + nI x = nI (8 + x) := nI_add 8 x
theorem c968a (x : Nat) : (968 : Int32) + nI x = nI (968 + x) := nI_add 968 x
theorem c1160a (x : Nat) : (1160 : Int32) + nI x = nI (1160 + x) := nI_add 1160 x
theorem c1168a (x : Nat) : (1168 : Int32) + nI x = nI (1168 + x) := nI_add 1168 x
theorem c1176a (x : Nat) : (1176 : Int32) + nI x = nI (1176 + x) := nI_add 1176 x
theorem c1184a (x : Nat) : (1184 : Int32) + nI x = nI (1184 + x) := nI_add 1184 x
theorem c1200a (x : Nat) : (1200 : Int32) + nI x = nI (1200 + x) := nI_add 1200 x
theorem c1558a (x : Nat) : (1558 : Int32) + nI x = nI (1558 + x) := nI_add 1558 x
theorem c1564a (x : Nat) : (1564 : Int32) + nI x = nI (1564 + x) := nI_add 1564 x
theorem c1572a (x : Nat) : (1572 : Int32) + nI x = nI (1572 + x) := nI_add 1572 x
theorem c1580a (x : Nat) : (1580 : Int32) + nI x = nI (1580 + x) := nI_add 1580 x
theorem c1581a (x : Nat) : (1581 : Int32) + nI x = nI (1581 + x) := nI_add 1581 x
theorem c1741a (x : Nat) : (1741 : Int32) + nI x = nI (1741 + x) := nI_add 1741 x
theorem c1742a (x : Nat) : (1742 : Int32) + nI x = nI (1742 + x) := nI_add 1742 x
theorem mR_A (R : aM) (k : Nat) (f : Nat → Int32) (b i : Nat) : (mR R k f).2.1 b i = if b = k then f i else R.2.1 b i := rfl
theorem mR_I (R : aM) (k : Nat) (f : Nat → Int32) : (mR R k f).1 = R.1 := rfl
/-- a place of a row of numbers put -/
def up (f : Nat → Int32) (j : Nat) (v : Int32) : Nat → Int32 := fun i => if i = j then v else f i
theorem mR_id (R : aM) (k : Nat) : mR R k (R.2.1 k) = R := by
  obtain ⟨I, A, J⟩ := R
  simp only [mR]
  congr 2
  funext b j
  split
  · rename_i h; rw [h]
  · rfl
theorem mA_R (R : aM) (k j : Nat) (v : Int32) : mA R k j v = mR R k (up (R.2.1 k) j v) := by
  simp only [mA, mR]
  congr 2
  funext b i
  simp only [up2, up]
  by_cases h : b = k
  · subst h; simp
  · simp [h]
theorem mA_mR (R : aM) (k j : Nat) (f : Nat → Int32) (v : Int32) : mA (mR R k f) k j v = mR R k (up f j v) := by
  simp only [mA, mR]
  congr 2
  funext b i
  simp only [up2, up]
  by_cases h : b = k
  · subst h; simp
  · simp [h]
theorem mR_mR (R : aM) (k : Nat) (f g : Nat → Int32) : mR (mR R k f) k g = mR R k g := by
  simp only [mR]
  congr 2
  funext b i
  split <;> rfl
theorem mR_s (R : aM) (k : Nat) (f : Nat → Int32) : (mR R k f).2.1 k = f := by
  funext i
  simp [mR]
