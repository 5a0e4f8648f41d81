/-! A NEW ROW, as a shape and a memory -/
theorem mkfs_cg {a : Nat} {M M' : aM} (h1 : M'.1 a = M.1 a) (h2 : M'.2.2 a = M.2.2 a) : ∀ (fl : List Nat) (k : Nat), mkfs a M' k fl = mkfs a M k fl
  | [], _ => rfl
  | t :: fl, k => by
    show mkf a k t M' :: mkfs a M' (k + 1) fl = mkf a k t M :: mkfs a M (k + 1) fl
    rw [mkfs_cg h1 h2 fl (k + 1)]
    congr 1
    match t with
    | 0 => show Value.int _ = Value.int _; rw [h1]
    | 1 => show Value.long _ = Value.long _; rw [h2]
    | 2 => rfl
    | r + 3 => rfl
theorem mkc_cg {a : Nat} {M M' : aM} (h1 : M'.1 a = M.1 a) (h2 : M'.2.2 a = M.2.2 a) (h3 : M'.2.1 a = M.2.1 a) : ∀ s : sE, mkc a s M' = mkc a s M
  | .inl (ci, fl) => by show Sum.inr _ = Sum.inr _; rw [mkfs_cg h1 h2]
  | .inr (.inl (tc, n)) => by show Sum.inl _ = Sum.inl _; rw [h3]
  | .inr (.inr e) => rfl
theorem mkl_app (M : aM) (t : List sE) : ∀ (s : List sE) (a : Nat), mkl M a (s ++ t) = mkl M a s ++ mkl M (a + s.length) t
  | [], a => rfl
  | x :: s, a => by
    show mkc a x M :: mkl M (a + 1) (s ++ t) = mkc a x M :: (mkl M (a + 1) s ++ mkl M (a + (s.length + 1)) t)
    rw [mkl_app M t s (a + 1), show a + 1 + s.length = a + (s.length + 1) by omega]
theorem mkl_cg {M M' : aM} : ∀ (s : List sE) (a : Nat), (∀ b t, a ≤ b → b < a + s.length → mkc b t M' = mkc b t M) → mkl M' a s = mkl M a s
  | [], _, _ => rfl
  | x :: s, a, h => by
    show mkc a x M' :: mkl M' (a + 1) s = mkc a x M :: mkl M (a + 1) s
    rw [h a x (Nat.le_refl _) (by show a < a + (s.length + 1); omega), mkl_cg s (a + 1) (fun b t p q => h b t (by omega) (by show b < a + (s.length + 1); omega))]
def rowS (b : Nat) : List sE := (List.range 31).map (rowE b)
/-- the memory of a new row -/
def R00 : aM := ((fun k j => if k = 26 ∧ j = 1 then 60 else if k = 26 ∧ j = 2 then 3 else if k = 28 ∧ j = 1 then 40 else if k = 28 ∧ j = 2 then 5 else if k = 30 ∧ j = 8 then -1 else 0), (fun _ _ => 0), fun _ => 0)
theorem shp_app {sh t : List sE} {x : Nat} {s : sE} (h : shp sh x = some s) : shp (sh ++ t) x = some s := by
  unfold shp at h ⊢
  cases hb : Nat.blt x 32 with
  | true => rw [hb] at h; cases h
  | false =>
    rw [hb] at h
    simp only [cond_false] at h ⊢
    rw [List.getElem?_append_left (List.getElem?_eq_some_iff.mp h).1]
    exact h
theorem RowSh.app {sh t : List sE} {a : Nat} (h : RowSh sh a) : RowSh (sh ++ t) a := fun k hk => shp_app (h k hk)
theorem ModSh.app {sh t : List sE} {a : Nat} (h : ModSh sh a) : ModSh (sh ++ t) a := fun k hk => shp_app (h k hk)
theorem RowSh_new (sh : List sE) : RowSh (sh ++ rowS (32 + sh.length)) (32 + sh.length) := fun k hk => by
  unfold shp
  rw [show Nat.blt (32 + sh.length + k) 32 = false from Bool.eq_false_iff.mpr (fun q => by have := Nat.blt_eq.mp q; omega)]
  simp only [cond_false]
  rw [List.getElem?_append_right (by omega), show 32 + sh.length + k - 32 - sh.length = k by omega]
  unfold rowS
  rw [List.getElem?_map, List.getElem?_range hk]
  rfl
theorem rowC_get (M : aM) (b : Nat) : ∀ j, j < 31 → (rowC b)[j]? = some (mkc (b + j) (rowE b j) (gl M b 31 R00)) := by
  have g1 : ∀ k j, k < 31 → (gl M b 31 R00).1 (b + k) j = R00.1 k j := fun k j h => gl_I h
  have g2 : ∀ k, k < 31 → (gl M b 31 R00).2.1 (b + k) = R00.2.1 k := fun k h => gl_A h
  intro j hj
  rcases (show j = 0 ∨ j = 1 ∨ j = 2 ∨ j = 3 ∨ j = 4 ∨ j = 5 ∨ j = 6 ∨ j = 7 ∨ j = 8 ∨ j = 9 ∨ j = 10 ∨ j = 11 ∨ j = 12 ∨ j = 13 ∨ j = 14 ∨ j = 15 ∨ j = 16 ∨ j = 17 ∨ j = 18 ∨ j = 19 ∨ j = 20 ∨ j = 21 ∨ j = 22 ∨ j = 23 ∨ j = 24 ∨ j = 25 ∨ j = 26 ∨ j = 27 ∨ j = 28 ∨ j = 29 ∨ j = 30 by omega) with rfl | rfl | rfl | rfl | rfl | rfl | rfl | rfl | rfl | rfl | rfl | rfl | rfl | rfl | rfl | rfl | rfl | rfl | rfl | rfl | rfl | rfl | rfl | rfl | rfl | rfl | rfl | rfl | rfl | rfl | rfl
  · show some _ = some _
    simp only [rowE, mkc, mkfs, mkf, g1 0 _ (by decide), g2 0 (by decide)]
    first | rfl | done
  · show some _ = some _
    simp only [rowE, mkc, mkfs, mkf, g1 1 _ (by decide), g2 1 (by decide)]
    first | rfl | done
  · show some _ = some _
    simp only [rowE, mkc, mkfs, mkf, g1 2 _ (by decide), g2 2 (by decide)]
    first | rfl | done
  · show some _ = some _
    simp only [rowE, mkc, mkfs, mkf, g1 3 _ (by decide), g2 3 (by decide)]
    first | rfl | done
  · show some _ = some _
    simp only [rowE, mkc, mkfs, mkf, g1 4 _ (by decide), g2 4 (by decide)]
    first | rfl | done
  · show some _ = some _
    simp only [rowE, mkc, mkfs, mkf, g1 5 _ (by decide), g2 5 (by decide)]
    first | rfl | done
  · show some _ = some _
    simp only [rowE, mkc, mkfs, mkf, g1 6 _ (by decide), g2 6 (by decide)]
    first | rfl | done
  · show some _ = some _
    simp only [rowE, mkc, mkfs, mkf, g1 7 _ (by decide), g2 7 (by decide)]
    first | rfl | done
  · show some _ = some _
    simp only [rowE, mkc, mkfs, mkf, g1 8 _ (by decide), g2 8 (by decide)]
    first | rfl | done
  · show some _ = some _
    simp only [rowE, mkc, mkfs, mkf, g1 9 _ (by decide), g2 9 (by decide)]
    first | rfl | done
  · show some _ = some _
    simp only [rowE, mkc, mkfs, mkf, g1 10 _ (by decide), g2 10 (by decide)]
    first | rfl | done
  · show some _ = some _
    simp only [rowE, mkc, mkfs, mkf, g1 11 _ (by decide), g2 11 (by decide)]
    first | rfl | done
  · show some _ = some _
    simp only [rowE, mkc, mkfs, mkf, g1 12 _ (by decide), g2 12 (by decide)]
    first | rfl | done
  · show some _ = some _
    simp only [rowE, mkc, mkfs, mkf, g1 13 _ (by decide), g2 13 (by decide)]
    first | rfl | done
  · show some _ = some _
    simp only [rowE, mkc, mkfs, mkf, g1 14 _ (by decide), g2 14 (by decide)]
    first | rfl | done
  · show some _ = some _
    simp only [rowE, mkc, mkfs, mkf, g1 15 _ (by decide), g2 15 (by decide)]
    first | rfl | done
  · show some _ = some _
    simp only [rowE, mkc, mkfs, mkf, g1 16 _ (by decide), g2 16 (by decide)]
    first | rfl | done
  · show some _ = some _
    simp only [rowE, mkc, mkfs, mkf, g1 17 _ (by decide), g2 17 (by decide)]
    first | rfl | done
  · show some _ = some _
    simp only [rowE, mkc, mkfs, mkf, g1 18 _ (by decide), g2 18 (by decide)]
    first | rfl | done
  · show some _ = some _
    simp only [rowE, mkc, mkfs, mkf, g1 19 _ (by decide), g2 19 (by decide)]
    first | rfl | done
  · show some _ = some _
    simp only [rowE, mkc, mkfs, mkf, g1 20 _ (by decide), g2 20 (by decide)]
    first | rfl | done
  · show some _ = some _
    simp only [rowE, mkc, mkfs, mkf, g1 21 _ (by decide), g2 21 (by decide)]
    first | rfl | done
  · show some _ = some _
    simp only [rowE, mkc, mkfs, mkf, g1 22 _ (by decide), g2 22 (by decide)]
    first | rfl | done
  · show some _ = some _
    simp only [rowE, mkc, mkfs, mkf, g1 23 _ (by decide), g2 23 (by decide)]
    first | rfl | done
  · show some _ = some _
    simp only [rowE, mkc, mkfs, mkf, g1 24 _ (by decide), g2 24 (by decide)]
    first | rfl | done
  · show some _ = some _
    simp only [rowE, mkc, mkfs, mkf, g1 25 _ (by decide), g2 25 (by decide)]
    first | rfl | done
  · show some _ = some _
    simp only [rowE, mkc, mkfs, mkf, g1 26 _ (by decide), g2 26 (by decide)]
    first | rfl | done
  · show some _ = some _
    simp only [rowE, mkc, mkfs, mkf, g1 27 _ (by decide), g2 27 (by decide)]
    first | rfl | done
  · show some _ = some _
    simp only [rowE, mkc, mkfs, mkf, g1 28 _ (by decide), g2 28 (by decide)]
    first | rfl | done
  · show some _ = some _
    simp only [rowE, mkc, mkfs, mkf, g1 29 _ (by decide), g2 29 (by decide)]
    first | rfl | done
  · show some _ = some _
    simp only [rowE, mkc, mkfs, mkf, g1 30 _ (by decide), g2 30 (by decide)]
    first | rfl | done
theorem mk_newrow (sh : List sE) (M : aM) : mk sh M ++ rowC (32 + sh.length) = mk (sh ++ rowS (32 + sh.length)) (gl M (32 + sh.length) 31 R00) := by
  unfold mk
  rw [mkl_app]
  congr 1
  · refine (mkl_cg sh 32 (fun b t p q => mkc_cg ?_ ?_ ?_ t)).symm
    · funext j; exact gl_Io (Or.inl (by omega))
    · rfl
    · exact gl_Ao (Or.inl (by omega))
  · apply List.ext_getElem?
    intro j
    rw [mkl_get]
    unfold rowS
    rcases Nat.lt_or_ge j 31 with h | h
    · rw [rowC_get M _ j h, List.getElem?_map, List.getElem?_range h]
      rfl
    · rw [List.getElem?_eq_none (by exact h), List.getElem?_eq_none (by rw [List.length_map, List.length_range]; exact h)]
      rfl
