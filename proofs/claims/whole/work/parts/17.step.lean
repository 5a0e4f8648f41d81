/-! ONE INSTRUCTION, BY AN EQUATION -/
theorem go_of {sc : aS} {d mid pc : Nat} {L : aL} {S : List Value} {h : aH} {i : Instr} {nx x y : Nat} (ht : pT mid pc = some (i, nx, x, y)) : evp sc d mid pc L S h = e_go sc (evp sc) d mid pc L S h i nx x y := by
  rw [evp_fix]
  unfold evS
  rw [ht]
def e_li (o : Option Value) (f : Int32 → aR) : aR := match o with
  | some (.int v) => f v
  | _ => none
def e_lr (o : Option Value) (f : Nat → aR) : aR := match o with
  | some (.ref v) => f v
  | _ => none
def e_lj (o : Option Value) (f : Int64 → aR) : aR := match o with
  | some (.long v) => f v
  | _ => none
theorem li_some (v : Int32) (f : Int32 → aR) : e_li (some (.int v)) f = f v := rfl
theorem lr_some (v : Nat) (f : Nat → aR) : e_lr (some (.ref v)) f = f v := rfl
theorem lj_some (v : Int64) (f : Int64 → aR) : e_lj (some (.long v)) f = f v := rfl
theorem bif_dec {α : Type} (p : Prop) [hd : Decidable p] (a b : α) : (bif decide p then a else b) = if p then a else b := by
  by_cases h : p <;> simp [h]
section STEP
variable {sc : aS} {d mid pc : Nat} {L : aL} {S : List Value} {h : aH} {nx x y : Nat}
theorem e_call_nc (K : aK) (i : Instr) (hn : ∀ x av, e_rcv i x av h = false) : e_call sc K d mid L S h i nx x y = none := by
  unfold e_call
  simp [hn]
section GO
variable {K : aK} {i : Instr}
theorem go_op {S' : List Value} (h1 : e_op i S = some S') : e_go sc K d mid pc L S h i nx x y = K d mid nx L S' h := by
  unfold e_go; simp only [h1]
theorem go_lo {v : Value} (h1 : e_op i S = none) (h2 : e_lo i L = some v) : e_go sc K d mid pc L S h i nx x y = K d mid nx L (v :: S) h := by
  unfold e_go; simp only [h1, h2]
theorem go_br {b : Bool} {S' : List Value} (h1 : e_op i S = none) (h2 : e_lo i L = none) (h3 : e_br i S = some (b, S')) : e_go sc K d mid pc L S h i nx x y = bif b then K d mid x L S' h else K d mid nx L S' h := by
  unfold e_go; simp only [h1, h2, h3]
theorem go_rd {S' : List Value} (h1 : e_op i S = none) (h2 : e_lo i L = none) (h3 : e_br i S = none) (h4 : e_rd sc i x y S h = some S') : e_go sc K d mid pc L S h i nx x y = K d mid nx L S' h := by
  unfold e_go; simp only [h1, h2, h3, h4]
theorem go_sto {L' : aL} {S' : List Value} (h1 : e_op i S = none) (h2 : e_lo i L = none) (h3 : e_br i S = none) (h4 : e_rd sc i x y S h = none) (h5 : e_sto i L S = some (L', S')) : e_go sc K d mid pc L S h i nx x y = K d mid nx L' S' h := by
  unfold e_go; simp only [h1, h2, h3, h4, h5]
theorem go_wr {S' : List Value} {h' : aH} (h1 : e_op i S = none) (h2 : e_lo i L = none) (h3 : e_br i S = none) (h4 : e_rd sc i x y S h = none) (h5 : e_sto i L S = none) (h6 : e_wr i x y S h = some (S', h')) : e_go sc K d mid pc L S h i nx x y = K d mid nx L S' h' := by
  unfold e_go; simp only [h1, h2, h3, h4, h5, h6]
theorem go_ret {v : Option Value} (h1 : e_op i S = none) (h2 : e_lo i L = none) (h3 : e_br i S = none) (h4 : e_rd sc i x y S h = none) (h5 : e_sto i L S = none) (h6 : e_wr i x y S h = none) (h7 : e_ret mid i S = some v) : e_go sc K d mid pc L S h i nx x y = some (v, h) := by
  unfold e_go; simp only [h1, h2, h3, h4, h5, h6, h7]
theorem go_sw {t : Nat} {S' : List Value} (h1 : e_op i S = none) (h2 : e_lo i L = none) (h3 : e_br i S = none) (h4 : e_rd sc i x y S h = none) (h5 : e_sto i L S = none) (h6 : e_wr i x y S h = none) (h7 : e_ret mid i S = none) (h8 : e_sw pc i S = some (t, S')) : e_go sc K d mid pc L S h i nx x y = K d mid t L S' h := by
  unfold e_go; simp only [h1, h2, h3, h4, h5, h6, h7, h8]
theorem go_none (h1 : e_op i S = none) (h2 : e_lo i L = none) (h3 : e_br i S = none) (h4 : e_rd sc i x y S h = none) (h5 : e_sto i L S = none) (h6 : e_wr i x y S h = none) (h7 : e_ret mid i S = none) (h8 : e_sw pc i S = none) (h9 : ∀ x av, e_rcv i x av h = false) : e_go sc K d mid pc L S h i nx x y = none := by
  unfold e_go; simp only [h1, h2, h3, h4, h5, h6, h7, h8]; exact e_call_nc _ _ h9
end GO
theorem st_iload {k : Nat} (ht : pT mid pc = some (.iload k, nx, x, y)) : evp sc d mid pc L S h = e_li (e_ld L k) (fun v => evp sc d mid nx L (.int v :: S) h) := by
  rw [go_of ht]
  cases hl : e_ld L k with
  | none => exact go_none rfl (by simp only [e_lo, hl]) rfl rfl rfl rfl rfl rfl (fun _ _ => rfl)
  | some v =>
    cases v with
    | int v => exact go_lo rfl (by simp only [e_lo, hl])
    | _ => exact go_none rfl (by simp only [e_lo, hl]) rfl rfl rfl rfl rfl rfl (fun _ _ => rfl)
theorem st_iload_n {k : Fin 4} (ht : pT mid pc = some (.iload_n k, nx, x, y)) : evp sc d mid pc L S h = e_li (e_ld L k.val) (fun v => evp sc d mid nx L (.int v :: S) h) := by
  rw [go_of ht]
  cases hl : e_ld L k.val with
  | none => exact go_none rfl (by simp only [e_lo, hl]) rfl rfl rfl rfl rfl rfl (fun _ _ => rfl)
  | some v =>
    cases v with
    | int v => exact go_lo rfl (by simp only [e_lo, hl])
    | _ => exact go_none rfl (by simp only [e_lo, hl]) rfl rfl rfl rfl rfl rfl (fun _ _ => rfl)
theorem st_aload {k : Nat} (ht : pT mid pc = some (.aload k, nx, x, y)) : evp sc d mid pc L S h = e_lr (e_ld L k) (fun v => evp sc d mid nx L (.ref v :: S) h) := by
  rw [go_of ht]
  cases hl : e_ld L k with
  | none => exact go_none rfl (by simp only [e_lo, hl]) rfl rfl rfl rfl rfl rfl (fun _ _ => rfl)
  | some v =>
    cases v with
    | ref v => exact go_lo rfl (by simp only [e_lo, hl])
    | _ => exact go_none rfl (by simp only [e_lo, hl]) rfl rfl rfl rfl rfl rfl (fun _ _ => rfl)
theorem st_aload_n {k : Fin 4} (ht : pT mid pc = some (.aload_n k, nx, x, y)) : evp sc d mid pc L S h = e_lr (e_ld L k.val) (fun v => evp sc d mid nx L (.ref v :: S) h) := by
  rw [go_of ht]
  cases hl : e_ld L k.val with
  | none => exact go_none rfl (by simp only [e_lo, hl]) rfl rfl rfl rfl rfl rfl (fun _ _ => rfl)
  | some v =>
    cases v with
    | ref v => exact go_lo rfl (by simp only [e_lo, hl])
    | _ => exact go_none rfl (by simp only [e_lo, hl]) rfl rfl rfl rfl rfl rfl (fun _ _ => rfl)
theorem st_lload {k : Nat} (ht : pT mid pc = some (.lload k, nx, x, y)) : evp sc d mid pc L S h = e_lj (e_ld L k) (fun v => evp sc d mid nx L (.long v :: S) h) := by
  rw [go_of ht]
  cases hl : e_ld L k with
  | none => exact go_none rfl (by simp only [e_lo, hl]) rfl rfl rfl rfl rfl rfl (fun _ _ => rfl)
  | some v =>
    cases v with
    | long v => exact go_lo rfl (by simp only [e_lo, hl])
    | _ => exact go_none rfl (by simp only [e_lo, hl]) rfl rfl rfl rfl rfl rfl (fun _ _ => rfl)
theorem st_lload_n {k : Fin 4} (ht : pT mid pc = some (.lload_n k, nx, x, y)) : evp sc d mid pc L S h = e_lj (e_ld L k.val) (fun v => evp sc d mid nx L (.long v :: S) h) := by
  rw [go_of ht]
  cases hl : e_ld L k.val with
  | none => exact go_none rfl (by simp only [e_lo, hl]) rfl rfl rfl rfl rfl rfl (fun _ _ => rfl)
  | some v =>
    cases v with
    | long v => exact go_lo rfl (by simp only [e_lo, hl])
    | _ => exact go_none rfl (by simp only [e_lo, hl]) rfl rfl rfl rfl rfl rfl (fun _ _ => rfl)
theorem st_istore {k : Nat} {v : Int32} (ht : pT mid pc = some (.istore k, nx, x, y)) : evp sc d mid pc L (.int v :: S) h = bif e_nl L k then evp sc d mid nx (e_st1 L k (.int v)) S h else none := by
  rw [go_of ht]
  cases hl : e_nl L k with
  | true => exact go_sto rfl rfl rfl rfl (by simp only [e_sto, hl, cond_true])
  | false => exact go_none rfl rfl rfl rfl (by simp only [e_sto, hl, cond_false]) rfl rfl rfl (fun _ _ => rfl)
theorem st_istore_n {k : Fin 4} {v : Int32} (ht : pT mid pc = some (.istore_n k, nx, x, y)) : evp sc d mid pc L (.int v :: S) h = bif e_nl L k.val then evp sc d mid nx (e_st1 L k.val (.int v)) S h else none := by
  rw [go_of ht]
  cases hl : e_nl L k.val with
  | true => exact go_sto rfl rfl rfl rfl (by simp only [e_sto, hl, cond_true])
  | false => exact go_none rfl rfl rfl rfl (by simp only [e_sto, hl, cond_false]) rfl rfl rfl (fun _ _ => rfl)
theorem st_astore {k : Nat} {v : Nat} (ht : pT mid pc = some (.astore k, nx, x, y)) : evp sc d mid pc L (.ref v :: S) h = bif e_nl L k then evp sc d mid nx (e_st1 L k (.ref v)) S h else none := by
  rw [go_of ht]
  cases hl : e_nl L k with
  | true => exact go_sto rfl rfl rfl rfl (by simp only [e_sto, hl, cond_true])
  | false => exact go_none rfl rfl rfl rfl (by simp only [e_sto, hl, cond_false]) rfl rfl rfl (fun _ _ => rfl)
theorem st_astore_n {k : Fin 4} {v : Nat} (ht : pT mid pc = some (.astore_n k, nx, x, y)) : evp sc d mid pc L (.ref v :: S) h = bif e_nl L k.val then evp sc d mid nx (e_st1 L k.val (.ref v)) S h else none := by
  rw [go_of ht]
  cases hl : e_nl L k.val with
  | true => exact go_sto rfl rfl rfl rfl (by simp only [e_sto, hl, cond_true])
  | false => exact go_none rfl rfl rfl rfl (by simp only [e_sto, hl, cond_false]) rfl rfl rfl (fun _ _ => rfl)
theorem st_iinc {k : Nat} {n : Int} {c : Int32} (hc : Int32.ofInt n = c) (ht : pT mid pc = some (.iinc k n, nx, x, y)) : evp sc d mid pc L S h = e_li (e_ld L k) (fun v => bif e_nl L k then evp sc d mid nx (e_st1 L k (.int (v + c))) S h else none) := by
  subst hc
  rw [go_of ht]
  cases hl : e_ld L k with
  | none => exact go_none rfl rfl rfl rfl (by simp only [e_sto, hl]) rfl rfl rfl (fun _ _ => rfl)
  | some v =>
    cases v with
    | int v =>
      rw [li_some]
      cases hn : e_nl L k with
      | true => exact go_sto rfl rfl rfl rfl (by simp only [e_sto, hl, hn, cond_true])
      | false => exact go_none rfl rfl rfl rfl (by simp only [e_sto, hl, hn, cond_false]) rfl rfl rfl (fun _ _ => rfl)
    | _ => exact go_none rfl rfl rfl rfl (by simp only [e_sto, hl]) rfl rfl rfl (fun _ _ => rfl)
theorem st_getfield {a ix : Nat} (ht : pT mid pc = some (.getfield ix, nx, x, y)) : evp sc d mid pc L (.ref a :: S) h = (e_gf h a x y).bind (fun v => evp sc d mid nx L (v :: S) h) := by
  rw [go_of ht]
  have e1 : e_rd sc (.getfield ix) x y (.ref a :: S) h = (e_gf h a x y).map (fun v => v :: S) := by
    simp only [e_rd, e_gf]
    cases e_c h a with
    | none => rfl
    | some e =>
      cases e with
      | inl q => rfl
      | inr q =>
        obtain ⟨c, fs⟩ := q
        simp only
        cases Nat.beq c x <;> rfl
  cases hg : e_gf h a x y with
  | none => rw [hg] at e1; exact go_none rfl rfl rfl e1 rfl rfl rfl rfl (fun _ _ => rfl)
  | some v => rw [hg] at e1; exact go_rd rfl rfl rfl e1
theorem st_putfield {a ix : Nat} {v : Value} (ht : pT mid pc = some (.putfield ix, nx, x, y)) : evp sc d mid pc L (v :: .ref a :: S) h = (e_pf h a x y v).bind (fun h' => evp sc d mid nx L S h') := by
  rw [go_of ht]
  have e1 : e_wr (.putfield ix) x y (v :: .ref a :: S) h = (e_pf h a x y v).map (fun h' => (S, h')) := by
    simp only [e_wr, e_pf]
    cases e_c h a with
    | none => rfl
    | some e =>
      cases e with
      | inl q => rfl
      | inr q =>
        obtain ⟨c, fs⟩ := q
        simp only
        cases (Nat.beq c x && Nat.blt y fs.length && e_fit (pTy x y) v) <;> rfl
  cases hg : e_pf h a x y v with
  | none => rw [hg] at e1; exact go_none rfl rfl rfl rfl rfl e1 rfl rfl (fun _ _ => rfl)
  | some v => rw [hg] at e1; exact go_wr rfl rfl rfl rfl rfl e1
theorem st_iaload {a : Nat} {j : Int32} (ht : pT mid pc = some (.iaload, nx, x, y)) : evp sc d mid pc L (.int j :: .ref a :: S) h = (e_ia sc h a 0 j).bind (fun v => evp sc d mid nx L (.int v :: S) h) := by
  rw [go_of ht]
  have e1 : e_rd sc .iaload x y (.int j :: .ref a :: S) h = (e_ia sc h a 0 j).map (fun v => .int v :: S) := by
    simp only [e_rd, e_ia]
    cases e_arr sc h a 0 with
    | none => rfl
    | some q =>
      simp only [Option.bind_some]
      split <;> rfl
  cases hg : e_ia sc h a 0 j with
  | none => rw [hg] at e1; exact go_none rfl rfl rfl e1 rfl rfl rfl rfl (fun _ _ => rfl)
  | some v => rw [hg] at e1; exact go_rd rfl rfl rfl e1
theorem st_baload {a : Nat} {j : Int32} (ht : pT mid pc = some (.baload, nx, x, y)) : evp sc d mid pc L (.int j :: .ref a :: S) h = (e_ia sc h a 1 j).bind (fun v => evp sc d mid nx L (.int v :: S) h) := by
  rw [go_of ht]
  have e1 : e_rd sc .baload x y (.int j :: .ref a :: S) h = (e_ia sc h a 1 j).map (fun v => .int v :: S) := by
    simp only [e_rd, e_ia]
    cases e_arr sc h a 1 with
    | none => rfl
    | some q =>
      simp only [Option.bind_some]
      split <;> rfl
  cases hg : e_ia sc h a 1 j with
  | none => rw [hg] at e1; exact go_none rfl rfl rfl e1 rfl rfl rfl rfl (fun _ _ => rfl)
  | some v => rw [hg] at e1; exact go_rd rfl rfl rfl e1
theorem st_iastore {a : Nat} {j v : Int32} (ht : pT mid pc = some (.iastore, nx, x, y)) : evp sc d mid pc L (.int v :: .int j :: .ref a :: S) h = (e_is h a j v).bind (fun h' => evp sc d mid nx L S h') := by
  rw [go_of ht]
  have e1 : e_wr .iastore x y (.int v :: .int j :: .ref a :: S) h = (e_is h a j v).map (fun h' => (S, h')) := by
    simp only [e_wr, e_is]
    split
    · rename_i hc
      simp only [hc]
      split <;> rfl
    · rename_i hc
      split
      · rename_i n f hq
        exact absurd hq (hc n f)
      · rfl
  cases hg : e_is h a j v with
  | none => rw [hg] at e1; exact go_none rfl rfl rfl rfl rfl e1 rfl rfl (fun _ _ => rfl)
  | some v => rw [hg] at e1; exact go_wr rfl rfl rfl rfl rfl e1
/-- a call of a method of ours, its arguments on the stack (the last on top) -/
theorem st_call {ar : List Value} {i : Instr} (hi : (match i with
    | .invokestatic _ => true
    | .invokespecial _ => true
    | .invokevirtual _ => true
    | _ => false) = true) (hx : Nat.blt x 1000 = true) (hy : ar.length = y) (hsum : Nat.ble ((ar.map fun v => v.category).sum) (pM x) = true) (ht : pT mid pc = some (i, nx, x, y)) : evp sc (d + 1) mid pc L (ar ++ S) h = bif e_cat S && e_rcv i x ar.reverse h then (evp sc d x 0 (lv_args 0 ar.reverse) [] h).bind (fun q => evp sc (d + 1) mid nx L (q.1.toList ++ S) q.2) else none := by
  rw [go_of ht]
  have h1 : ∀ T, e_op i T = none := by intro T; cases i <;> first | rfl | cases hi
  have h2 : e_lo i L = none := by cases i <;> first | rfl | cases hi
  have h3 : ∀ T, e_br i T = none := by intro T; cases i <;> first | rfl | cases hi
  have h4 : ∀ T, e_rd sc i x y T h = none := by intro T; cases i <;> first | rfl | cases hi
  have h5 : ∀ T, e_sto i L T = none := by intro T; cases i <;> first | rfl | cases hi
  have h6 : ∀ T, e_wr i x y T h = none := by intro T; cases i <;> first | rfl | cases hi
  have h7 : ∀ T, e_ret mid i T = none := by intro T; cases i <;> first | rfl | cases hi
  have h8 : ∀ T, e_sw pc i T = none := by intro T; cases i <;> first | rfl | cases hi
  unfold e_go
  simp only [h1, h2, h3, h4, h5, h6, h7, h8]
  unfold e_call
  subst hy
  have e1 : Nat.ble ar.length (ar ++ S).length = true := Nat.ble_eq.mpr (by rw [List.length_append]; omega)
  rw [List.take_left', List.drop_left', e1, hsum, hx] <;> try rfl
  simp only [Bool.true_and, Bool.or_true, Bool.and_true, cond_true]
  cases (e_cat S && e_rcv i x ar.reverse h) with
  | false => rfl
  | true =>
    simp only [cond_true]
    cases evp sc d x 0 (lv_args 0 ar.reverse) [] h with
    | none => rfl
    | some q => rfl
end STEP
/-! locals -/
def e_n2 (L : aL) : Prop := ∀ q ∈ L, q.2.category = 1
theorem ld_st (L : aL) (i k : Nat) (v : Value) : e_ld (e_st1 L i v) k = if k = i then some v else e_ld L k := by
  unfold e_ld e_st1
  by_cases h : k = i
  · subst h
    simp
  · rw [if_neg h, List.find?_cons_of_neg (by simpa using Ne.symm h)]
    congr 1
    induction L with
    | nil => rfl
    | cons q L ih =>
      by_cases hq : q.1 = i
      · rw [List.filter_cons_of_neg (by simp [hq]), ih, List.find?_cons_of_neg (by rw [hq]; simpa using Ne.symm h)]
      · rw [List.filter_cons_of_pos (by simp [hq])]
        by_cases hk : q.1 = k
        · rw [List.find?_cons_of_pos (by simp [hk]), List.find?_cons_of_pos (by simp [hk])]
        · rw [List.find?_cons_of_neg (by simp [hk]), List.find?_cons_of_neg (by simp [hk]), ih]
theorem n2_st {L : aL} (h : e_n2 L) (i : Nat) {v : Value} (hv : v.category = 1) : e_n2 (e_st1 L i v) := by
  intro q hq
  rcases List.mem_cons.mp hq with rfl | hq
  · exact hv
  · exact h q (List.mem_filter.mp hq).1
theorem n2_nl {L : aL} (h : e_n2 L) (i : Nat) : e_nl L i = true := by
  cases i with
  | zero => rfl
  | succ j =>
    show (match e_ld L j with
      | some v => Nat.beq v.category 1
      | none => true) = true
    cases hl : e_ld L j with
    | none => rfl
    | some v =>
      unfold e_ld at hl
      obtain ⟨q, hq, rfl⟩ := Option.map_eq_some_iff.mp hl
      show Nat.beq q.2.category 1 = true
      rw [h q (List.mem_of_find?_eq_some hq)]
      rfl
section STEP2
variable {sc : aS} {d mid pc : Nat} {L : aL} {S : List Value} {h : aH} {nx x y : Nat}
theorem st_idiv {a b : Int32} (ht : pT mid pc = some (.idiv, nx, x, y)) : evp sc d mid pc L (.int b :: .int a :: S) h = if b = 0 then none else evp sc d mid nx L (.int (a / b) :: S) h := by
  rw [go_of ht]
  by_cases hb : b = 0
  · rw [if_pos hb]
    exact go_none (by simp only [e_op, e_bz, if_pos hb]) rfl rfl rfl rfl rfl rfl rfl (fun _ _ => rfl)
  · rw [if_neg hb]
    exact go_op (by simp only [e_op, e_bz, if_neg hb])
theorem st_irem {a b : Int32} (ht : pT mid pc = some (.irem, nx, x, y)) : evp sc d mid pc L (.int b :: .int a :: S) h = if b = 0 then none else evp sc d mid nx L (.int (a - a / b * b) :: S) h := by
  rw [go_of ht]
  by_cases hb : b = 0
  · rw [if_pos hb]
    exact go_none (by simp only [e_op, e_bz, if_pos hb]) rfl rfl rfl rfl rfl rfl rfl (fun _ _ => rfl)
  · rw [if_neg hb]
    exact go_op (by simp only [e_op, e_bz, if_neg hb])
theorem st_lrem {a b : Int64} (ht : pT mid pc = some (.lrem, nx, x, y)) : evp sc d mid pc L (.long b :: .long a :: S) h = if b = 0 then none else evp sc d mid nx L (.long (a - a / b * b) :: S) h := by
  rw [go_of ht]
  by_cases hb : b = 0
  · rw [if_pos hb]
    exact go_none (by simp only [e_op, e_jz, if_pos hb]) rfl rfl rfl rfl rfl rfl rfl (fun _ _ => rfl)
  · rw [if_neg hb]
    exact go_op (by simp only [e_op, e_jz, if_neg hb])
theorem st_zret {v : Int32} (hr : pR mid = some .boolean) (ht : pT mid pc = some (.ireturn, nx, x, y)) : evp sc d mid pc L [.int v] h = if v = 0 ∨ v = 1 then some (some (.int v), h) else none := by
  rw [go_of ht]
  by_cases hv : v = 0 ∨ v = 1
  · rw [if_pos hv]
    exact go_ret rfl rfl rfl rfl rfl rfl (by simp only [e_ret, hr, if_pos hv])
  · rw [if_neg hv]
    exact go_none rfl rfl rfl rfl rfl rfl (by simp only [e_ret, hr, if_neg hv]) rfl (fun _ _ => rfl)
theorem st_iret {v : Int32} (hr : pR mid = some .int) (ht : pT mid pc = some (.ireturn, nx, x, y)) : evp sc d mid pc L [.int v] h = some (some (.int v), h) := by
  rw [go_of ht]
  exact go_ret rfl rfl rfl rfl rfl rfl (by simp only [e_ret, hr])
theorem st_vret (hr : pR mid = none) (ht : pT mid pc = some (.return_, nx, x, y)) : evp sc d mid pc L [] h = some (none, h) := by
  rw [go_of ht]
  exact go_ret rfl rfl rfl rfl rfl rfl (by simp only [e_ret, hr])
theorem st_int {ar : List Value} {i : Instr} (hi : (match i with
    | .invokestatic _ => true
    | .invokespecial _ => true
    | .invokevirtual _ => true
    | _ => false) = true) (hx : Nat.blt x 1000 = false) (hx9 : Nat.blt 999 x = true) (hx7 : Nat.beq x 1007 = false) (hx4 : (Nat.blt x 1004 || Nat.ble 8 d) = true) (hy : ar.length = y) (ht : pT mid pc = some (i, nx, x, y)) : evp sc (d + 1) mid pc L (ar ++ S) h = bif e_cat S && e_rcv i x ar.reverse h then (e_int sc x ar.reverse h).bind (fun q => evp sc (d + 1) mid nx L (q.1.toList ++ S) q.2) else none := by
  rw [go_of ht]
  have h1 : ∀ T, e_op i T = none := by intro T; cases i <;> first | rfl | cases hi
  have h2 : e_lo i L = none := by cases i <;> first | rfl | cases hi
  have h3 : ∀ T, e_br i T = none := by intro T; cases i <;> first | rfl | cases hi
  have h4 : ∀ T, e_rd sc i x y T h = none := by intro T; cases i <;> first | rfl | cases hi
  have h5 : ∀ T, e_sto i L T = none := by intro T; cases i <;> first | rfl | cases hi
  have h6 : ∀ T, e_wr i x y T h = none := by intro T; cases i <;> first | rfl | cases hi
  have h7 : ∀ T, e_ret mid i T = none := by intro T; cases i <;> first | rfl | cases hi
  have h8 : ∀ T, e_sw pc i T = none := by intro T; cases i <;> first | rfl | cases hi
  unfold e_go
  simp only [h1, h2, h3, h4, h5, h6, h7, h8]
  unfold e_call
  subst hy
  have e1 : Nat.ble ar.length (ar ++ S).length = true := Nat.ble_eq.mpr (by rw [List.length_append]; omega)
  rw [List.take_left', List.drop_left', e1, hx, hx9, hx7] <;> try rfl
  simp only [Bool.true_and, Bool.true_or, Bool.and_true, cond_true, cond_false, hx4]
  cases (e_cat S && e_rcv i x ar.reverse h) with
  | false => rfl
  | true =>
    simp only [cond_true]
    cases e_int sc x ar.reverse h with
    | none => rfl
    | some q => rfl
end STEP2
