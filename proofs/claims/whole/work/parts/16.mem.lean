/-! A MEMORY AND A SHAPE: the heap as two functions of ints (fields I, array places A) and one of longs (J) over a list of shapes. A field's kind: 0 an int, 1 a long, 2 null, r + 3 the ref r. -/
abbrev sE : Type := (Nat × List Nat) ⊕ (Nat × Nat) ⊕ aE
abbrev aM : Type := (Nat → Nat → Int32) × (Nat → Nat → Int32) × (Nat → Int64)
def mkf (a k : Nat) (t : Nat) (M : aM) : Value := match t with
  | 0 => .int (M.1 a k)
  | 1 => .long (M.2.2 a)
  | 2 => .null
  | r + 3 => .ref r
def mkfs (a : Nat) (M : aM) : Nat → List Nat → List Value
  | _, [] => []
  | k, t :: l => mkf a k t M :: mkfs a M (k + 1) l
def mkc (a : Nat) (s : sE) (M : aM) : aE := match s with
  | .inl (ci, fl) => .inr (ci, mkfs a M 0 fl)
  | .inr (.inl (tc, n)) => .inl (tc, n, .inl (M.2.1 a))
  | .inr (.inr e) => e
def mkl (M : aM) : Nat → List sE → aH
  | _, [] => []
  | a, s :: l => mkc a s M :: mkl M (a + 1) l
/-- the heap of a shape and a memory -/
def mk (sh : List sE) (M : aM) : aH := mkl M 32 sh
theorem mkfs_get (a : Nat) (M : aM) : ∀ (fl : List Nat) (k j : Nat), (mkfs a M k fl)[j]? = (fl[j]?).map (fun t => mkf a (k + j) t M)
  | [], k, j => by simp [mkfs]
  | t :: fl, k, 0 => by simp [mkfs]
  | t :: fl, k, j + 1 => by
    simp only [mkfs, List.getElem?_cons_succ]
    rw [mkfs_get a M fl (k + 1) j, show k + 1 + j = k + (j + 1) by omega]
theorem mkfs_len (a : Nat) (M : aM) : ∀ (fl : List Nat) (k : Nat), (mkfs a M k fl).length = fl.length
  | [], k => rfl
  | t :: fl, k => by simp [mkfs, mkfs_len a M fl (k + 1)]
theorem mkl_get (M : aM) : ∀ (sh : List sE) (a j : Nat), (mkl M a sh)[j]? = (sh[j]?).map (fun s => mkc (a + j) s M)
  | [], a, j => by simp [mkl]
  | s :: sh, a, 0 => by simp [mkl]
  | s :: sh, a, j + 1 => by
    simp only [mkl, List.getElem?_cons_succ]
    rw [mkl_get M sh (a + 1) j, show a + 1 + j = a + (j + 1) by omega]
theorem mkl_len (M : aM) : ∀ (sh : List sE) (a : Nat), (mkl M a sh).length = sh.length
  | [], a => rfl
  | s :: sh, a => by simp [mkl, mkl_len M sh (a + 1)]
theorem mk_len (sh : List sE) (M : aM) : (mk sh M).length = sh.length := mkl_len M sh 32
/-- the shape at a ref -/
def shp (sh : List sE) (a : Nat) : Option sE := bif Nat.blt a 32 then none else sh[a - 32]?
theorem e_c_mk (sh : List sE) (M : aM) (a : Nat) : e_c (mk sh M) a = (shp sh a).map (fun s => mkc a s M) := by
  unfold e_c shp mk
  cases hb : Nat.blt a 32 with
  | true => rfl
  | false =>
    have h1 : ¬ a < 32 := fun q => by rw [Nat.blt_eq.mpr q] at hb; cases hb
    simp only [cond_false]
    rw [mkl_get, show 32 + (a - 32) = a by omega]
def up2 (F : Nat → Nat → Int32) (a k : Nat) (v : Int32) : Nat → Nat → Int32 := fun b j => if b = a ∧ j = k then v else F b j
def upJ (F : Nat → Int64) (a : Nat) (v : Int64) : Nat → Int64 := fun b => if b = a then v else F b
/-- a memory with one int field, array place or long put -/
def mI (M : aM) (a k : Nat) (v : Int32) : aM := (up2 M.1 a k v, M.2.1, M.2.2)
def mA (M : aM) (a k : Nat) (v : Int32) : aM := (M.1, up2 M.2.1 a k v, M.2.2)
def mJ (M : aM) (a : Nat) (v : Int64) : aM := (M.1, M.2.1, upJ M.2.2 a v)
/-- a whole array put -/
def mR (M : aM) (a : Nat) (f : Nat → Int32) : aM := (M.1, (fun b j => if b = a then f j else M.2.1 b j), M.2.2)
theorem mk_set {sh : List sE} {M M' : aM} {a : Nat} {s s' : sE} {e : aE} (hs : shp sh a = some s) (he : e = mkc a s' M') (ho : ∀ b t, b ≠ a → mkc b t M' = mkc b t M) : (mk sh M).set (a - 32) e = mk (sh.set (a - 32) s') M' := by
  unfold shp at hs
  cases hb : Nat.blt a 32 with
  | true => rw [hb] at hs; cases hs
  | false =>
    rw [hb] at hs
    have h1 : ¬ a < 32 := fun q => by rw [Nat.blt_eq.mpr q] at hb; cases hb
    simp only [cond_false] at hs
    have hl := (List.getElem?_eq_some_iff.mp hs).1
    apply List.ext_getElem?
    intro j
    unfold mk
    rw [mkl_get, List.getElem?_set, List.getElem?_set, mkl_len]
    by_cases hj : a - 32 = j
    · subst hj
      rw [if_pos rfl, if_pos hl, if_pos rfl, if_pos hl, show 32 + (a - 32) = a by omega, he]
      rfl
    · rw [if_neg hj, if_neg hj, mkl_get]
      cases sh[j]? with
      | none => rfl
      | some t => simp only [Option.map_some]; rw [ho _ t (by omega)]
theorem mk_set0 {sh : List sE} {M M' : aM} {a : Nat} {s : sE} {e : aE} (hs : shp sh a = some s) (he : e = mkc a s M') (ho : ∀ b t, b ≠ a → mkc b t M' = mkc b t M) : (mk sh M).set (a - 32) e = mk sh M' := by
  rw [mk_set hs he ho]
  congr 1
  unfold shp at hs
  cases hb : Nat.blt a 32 with
  | true => rw [hb] at hs; cases hs
  | false =>
    rw [hb] at hs
    apply List.ext_getElem?
    intro j
    rw [List.getElem?_set]
    have hl := (List.getElem?_eq_some_iff.mp hs).1
    by_cases hj : a - 32 = j
    · subst hj
      rw [if_pos rfl, if_pos hl]
      exact hs.symm
    · rw [if_neg hj]
theorem mkf_off {a b k t : Nat} {M : aM} {v : Int32} (h : b ≠ a) (q : Nat) : mkf b k t (mI M a q v) = mkf b k t M := by
  unfold mkf
  split <;> simp [mI, up2, h]
theorem mkfs_off {a b : Nat} {M : aM} {v : Int32} (h : b ≠ a) (q : Nat) : ∀ (fl : List Nat) (k : Nat), mkfs b (mI M a q v) k fl = mkfs b M k fl
  | [], k => rfl
  | t :: fl, k => by simp only [mkfs]; rw [mkf_off h, mkfs_off h q fl (k + 1)]
theorem mkc_offI {a b q : Nat} {M : aM} {v : Int32} (t : sE) (h : b ≠ a) : mkc b t (mI M a q v) = mkc b t M := by
  unfold mkc
  split
  · rw [mkfs_off h]
  · rfl
  · rfl
theorem mkfsJ_off {a b : Nat} {M : aM} {v : Int64} (h : b ≠ a) : ∀ (fl : List Nat) (k : Nat), mkfs b (mJ M a v) k fl = mkfs b M k fl
  | [], k => rfl
  | t :: fl, k => by
    simp only [mkfs]
    rw [mkfsJ_off h fl (k + 1)]
    congr 1
    unfold mkf
    split <;> simp [mJ, upJ, h]
theorem mkc_offJ {a b : Nat} {M : aM} {v : Int64} (t : sE) (h : b ≠ a) : mkc b t (mJ M a v) = mkc b t M := by
  unfold mkc
  split
  · rw [mkfsJ_off h]
  · rfl
  · rfl
theorem mkfsA (b : Nat) {M M' : aM} (h1 : M'.1 = M.1) (h2 : M'.2.2 = M.2.2) : ∀ (fl : List Nat) (k : Nat), mkfs b M' k fl = mkfs b M k fl
  | [], k => rfl
  | t :: fl, k => by
    simp only [mkfs]
    rw [mkfsA b h1 h2 fl (k + 1)]
    congr 1
    unfold mkf
    rw [h1, h2]
theorem mkc_offA {a b q : Nat} {M : aM} {v : Int32} (t : sE) (h : b ≠ a) : mkc b t (mA M a q v) = mkc b t M := by
  unfold mkc
  split
  · rw [mkfsA b (M := M) (M' := mA M a q v) rfl rfl]
  · have : (mA M a q v).2.1 b = M.2.1 b := by funext j; simp [mA, up2, h]
    rw [this]
  · rfl
theorem mkc_offR {a b : Nat} {M : aM} {f : Nat → Int32} (t : sE) (h : b ≠ a) : mkc b t (mR M a f) = mkc b t M := by
  unfold mkc
  split
  · rw [mkfsA b (M := M) (M' := mR M a f) rfl rfl]
  · have : (mR M a f).2.1 b = M.2.1 b := by funext j; simp [mR, h]
    rw [this]
  · rfl
/-! what an instruction does to such a heap -/
def e_gf (h : aH) (a ci k : Nat) : Option Value := match e_c h a with
  | some (.inr (c, fs)) => bif Nat.beq c ci then fs[k]? else none
  | _ => none
noncomputable def e_pf (h : aH) (a ci k : Nat) (v : Value) : Option aH := match e_c h a with
  | some (.inr (c, fs)) => bif Nat.beq c ci && Nat.blt k fs.length && e_fit (pTy ci k) v then some (h.set (a - 32) (.inr (c, fs.set k v))) else none
  | _ => none
def e_ia (sc : aS) (h : aH) (a tc : Nat) (j : Int32) : Option Int32 := (e_arr sc h a tc).bind (fun q => if ¬ (j < 0 ∨ q.1 ≤ j.toNatClampNeg) then some (q.2 j.toNatClampNeg) else none)
def e_is (h : aH) (a : Nat) (j v : Int32) : Option aH := match e_c h a with
  | some (.inl (0, n, .inl f)) => if ¬ (j < 0 ∨ n ≤ j.toNatClampNeg) then some (h.set (a - 32) (.inl (0, n, .inl (upd f j.toNatClampNeg v)))) else none
  | _ => none
def e_isC (h : aH) (a ci : Nat) : Bool := match e_c h a with
  | some (.inr (c, _)) => Nat.beq c ci
  | _ => false
theorem gf_mk {sh : List sE} {M : aM} {a ci k : Nat} {fl : List Nat} (hs : shp sh a = some (.inl (ci, fl))) : e_gf (mk sh M) a ci k = (fl[k]?).map (fun t => mkf a k t M) := by
  unfold e_gf
  rw [e_c_mk, hs]
  simp only [Option.map_some, mkc, Nat.beq_refl, cond_true]
  rw [mkfs_get, Nat.zero_add]
theorem isC_mk {sh : List sE} {M : aM} {a ci : Nat} {fl : List Nat} (hs : shp sh a = some (.inl (ci, fl))) : e_isC (mk sh M) a ci = true := by
  unfold e_isC
  rw [e_c_mk, hs]
  simp [mkc]
theorem pfI_mk {sh : List sE} {M : aM} {a ci k : Nat} {fl : List Nat} {v : Int32} (hs : shp sh a = some (.inl (ci, fl))) (hk : fl[k]? = some 0) (hf : e_fit (pTy ci k) (.int v) = true) : e_pf (mk sh M) a ci k (.int v) = some (mk sh (mI M a k v)) := by
  unfold e_pf
  rw [e_c_mk, hs]
  have hl := (List.getElem?_eq_some_iff.mp hk).1
  simp only [Option.map_some, mkc, Nat.beq_refl, mkfs_len, Nat.blt_eq.mpr hl, hf, Bool.and_self, cond_true]
  congr 1
  refine mk_set0 hs ?_ (fun b t hb => mkc_offI t hb)
  simp only [mkc]
  congr 2
  apply List.ext_getElem?
  intro j
  rw [List.getElem?_set, mkfs_len, mkfs_get, mkfs_get]
  by_cases hj : k = j
  · subst hj
    rw [if_pos rfl, if_pos hl, hk]
    simp [mkf, mI, up2]
  · rw [if_neg hj]
    cases hfj : fl[j]? with
    | none => rfl
    | some t =>
      simp only [Option.map_some, Nat.zero_add]
      congr 1
      unfold mkf
      split <;> simp [mI, up2, Ne.symm hj]
theorem ia_mk {sc : aS} {sh : List sE} {M : aM} {a tc n : Nat} {j : Int32} (hs : shp sh a = some (.inr (.inl (tc, n)))) : e_ia sc (mk sh M) a tc j = if ¬ (j < 0 ∨ n ≤ j.toNatClampNeg) then some (M.2.1 a j.toNatClampNeg) else none := by
  unfold e_ia e_arr
  have h1 : Nat.blt a 32 = false := by
    unfold shp at hs
    cases hb : Nat.blt a 32 with
    | true => rw [hb] at hs; cases hs
    | false => rfl
  have h2 := e_c_mk sh M a
  unfold e_c at h2
  rw [h1] at h2 ⊢
  simp only [cond_false] at h2 ⊢
  rw [h2, hs]
  simp [mkc]
theorem is_mk {sh : List sE} {M : aM} {a n : Nat} {j v : Int32} (hs : shp sh a = some (.inr (.inl (0, n)))) : e_is (mk sh M) a j v = if ¬ (j < 0 ∨ n ≤ j.toNatClampNeg) then some (mk sh (mA M a j.toNatClampNeg v)) else none := by
  unfold e_is
  rw [e_c_mk, hs]
  simp only [Option.map_some, mkc]
  split
  · congr 1
    refine mk_set0 hs ?_ (fun b t hb => mkc_offA t hb)
    simp only [mkc]
    congr 4
    funext q
    simp [mA, up2, upd]
  · rfl
