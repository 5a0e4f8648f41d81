/-! small rules for running methods by simp -/
theorem ld_cons (i k : Nat) (v : Value) (L : aL) : e_ld ((i, v) :: L) k = if k = i then some v else e_ld L k := by
  unfold e_ld
  by_cases h : k = i
  · subst h; simp
  · rw [if_neg h, List.find?_cons_of_neg (by simpa using Ne.symm h)]
theorem n2_ci (i : Nat) (v : Int32) (L : aL) : e_n2 ((i, .int v) :: L) ↔ e_n2 L := ⟨fun h q hq => h q (List.mem_cons_of_mem _ hq), fun h q hq => (List.mem_cons.mp hq).elim (fun e => by rw [e]; rfl) (h q)⟩
theorem n2_cr (i : Nat) (v : Nat) (L : aL) : e_n2 ((i, .ref v) :: L) ↔ e_n2 L := ⟨fun h q hq => h q (List.mem_cons_of_mem _ hq), fun h q hq => (List.mem_cons.mp hq).elim (fun e => by rw [e]; rfl) (h q)⟩
theorem n2_nil : e_n2 [] ↔ True := ⟨fun _ => trivial, fun _ q hq => by cases hq⟩
theorem n2_sti {L : aL} (h : e_n2 L) (i : Nat) (v : Int32) : e_n2 (e_st1 L i (.int v)) ↔ True := ⟨fun _ => trivial, fun _ => n2_st h i rfl⟩
theorem n2_str {L : aL} (h : e_n2 L) (i v : Nat) : e_n2 (e_st1 L i (.ref v)) ↔ True := ⟨fun _ => trivial, fun _ => n2_st h i rfl⟩
theorem tl_some (v : Value) (S : List Value) : (some v).toList ++ S = v :: S := rfl
theorem tl_none (S : List Value) : (none : Option Value).toList ++ S = S := rfl
theorem cat_le {S : List Value} (h : S.length ≤ 4) : e_cat S = true := by
  have key : ∀ T : List Value, (T.map fun v => v.category).sum ≤ 2 * T.length := by
    intro T
    induction T with
    | nil => simp
    | cons v T ih =>
      simp only [List.map_cons, List.sum_cons, List.length_cons]
      rcases lv_cat v with q | q <;> omega
  have := key S
  simp only [e_cat, decide_eq_true_eq]
  omega
theorem in_nI {l n : Nat} (h : l < n) (hn : n < 2 ^ 31) : (nI l < 0 ∨ n ≤ l) ↔ False := iff_of_false (fun q => nI_in h hn (by rw [nI_clamp (by omega)]; exact q)) id
theorem cl_nI {l n : Nat} (h : l < n) (hn : n < 2 ^ 31) : (nI l).toNatClampNeg = l := nI_clamp (by omega)
theorem mA_A (R : aM) (k j : Nat) (v : Int32) (b i : Nat) : (mA R k j v).2.1 b i = if b = k ∧ i = j then v else R.2.1 b i := rfl
theorem mA_I (R : aM) (k j : Nat) (v : Int32) : (mA R k j v).1 = R.1 := rfl
theorem mI_A (R : aM) (k j : Nat) (v : Int32) : (mI R k j v).2.1 = R.2.1 := rfl
theorem mI_I (R : aM) (k j : Nat) (v : Int32) (b i : Nat) : (mI R k j v).1 b i = if b = k ∧ i = j then v else R.1 b i := rfl
theorem b01 (c : Prop) [Decidable c] : ((if c then (0 : Int32) else 1) = 0) = c := by
  by_cases h : c <;> simp [h]
theorem b10 (c : Prop) [Decidable c] : ((if c then (1 : Int32) else 0) = 0) = ¬ c := by
  by_cases h : c <;> simp [h]
theorem b01n (c : Prop) [Decidable c] : (¬ (if c then (0 : Int32) else 1) = 0) = ¬ c := by
  by_cases h : c <;> simp [h]
theorem b10n (c : Prop) [Decidable c] : (¬ (if c then (1 : Int32) else 0) = 0) = c := by
  by_cases h : c <;> simp [h]
theorem i10 : ((1 : Int32) = 0) = False := by simp
theorem i01 : ((0 : Int32) = 1) = False := by simp
theorem im0 : ((-1 : Int32) = 0) = False := by simp
theorem ei_max (sc : aS) (x y : Int32) (h : aH) : e_int sc 1001 [.int x, .int y] h = some (some (.int (if x < y then y else x)), h) := rfl
theorem ei_min (sc : aS) (x y : Int32) (h : aH) : e_int sc 1002 [.int x, .int y] h = some (some (.int (if y < x then y else x)), h) := rfl
theorem ei_obj (sc : aS) (x : Nat) (h : aH) : e_int sc 1000 [.ref x] h = some (none, h) := rfl
theorem m1_sub (x : Int32) : x + (-1) = x - 1 := by rw [Int32.sub_eq_add_neg]
theorem nI_sub1 (n : Nat) : nI (n + 1) - 1 = nI n := nI_pred n
theorem n30 : ((3 : Int32) = 0) = False := by simp
theorem n20 : ((2 : Int32) = 0) = False := by simp
theorem nI_mul (a b : Nat) : nI a * nI b = nI (a * b) := (Int32.ofNat_mul a b).symm
theorem nm2 (a : Nat) : nI a * 2 = nI (a * 2) := nI_mul a 2
theorem nm3 (a : Nat) : nI a * 3 = nI (a * 3) := nI_mul a 3
theorem nm4 (a : Nat) : nI a * 4 = nI (a * 4) := nI_mul a 4
theorem nm5 (a : Nat) : nI a * 5 = nI (a * 5) := nI_mul a 5
theorem nm6 (a : Nat) : nI a * 6 = nI (a * 6) := nI_mul a 6
theorem nm8 (a : Nat) : nI a * 8 = nI (a * 8) := nI_mul a 8
theorem nm16 (a : Nat) : nI a * 16 = nI (a * 16) := nI_mul a 16
theorem nm25 (a : Nat) : nI a * 25 = nI (a * 25) := nI_mul a 25
theorem nm30 (a : Nat) : nI a * 30 = nI (a * 30) := nI_mul a 30
theorem nm32 (a : Nat) : nI a * 32 = nI (a * 32) := nI_mul a 32
theorem nm80 (a : Nat) : nI a * 80 = nI (a * 80) := nI_mul a 80
theorem na2 (a : Nat) : nI a + 2 = nI (a + 2) := nI_add a 2
theorem na3 (a : Nat) : nI a + 3 = nI (a + 3) := nI_add a 3
theorem na4 (a : Nat) : nI a + 4 = nI (a + 4) := nI_add a 4
theorem na5 (a : Nat) : nI a + 5 = nI (a + 5) := nI_add a 5
theorem na6 (a : Nat) : nI a + 6 = nI (a + 6) := nI_add a 6
theorem na7 (a : Nat) : nI a + 7 = nI (a + 7) := nI_add a 7
theorem na8 (a : Nat) : nI a + 8 = nI (a + 8) := nI_add a 8
theorem na16 (a : Nat) : nI a + 16 = nI (a + 16) := nI_add a 16
theorem na0 (a : Nat) : nI a + 0 = nI a := nI_add a 0
theorem nz0 : (nI 0) = 0 := rfl
theorem nl_sti (L : aL) (i k : Nat) (v : Int32) : e_nl (e_st1 L i (.int v)) k = if k = i + 1 then true else e_nl L k := by
  cases k with
  | zero => rw [if_neg (by omega)]; rfl
  | succ j =>
    unfold e_nl
    simp only [ld_st]
    by_cases h : j = i
    · subst h; simp; rfl
    · rw [if_neg h, if_neg (by omega)]
theorem nl_str (L : aL) (i k v : Nat) : e_nl (e_st1 L i (.ref v)) k = if k = i + 1 then true else e_nl L k := by
  cases k with
  | zero => rw [if_neg (by omega)]; rfl
  | succ j =>
    unfold e_nl
    simp only [ld_st]
    by_cases h : j = i
    · subst h; simp; rfl
    · rw [if_neg h, if_neg (by omega)]
theorem nl_ci (L : aL) (i k : Nat) (v : Int32) : e_nl ((i, .int v) :: L) k = if k = i + 1 then true else e_nl L k := by
  cases k with
  | zero => rw [if_neg (by omega)]; rfl
  | succ j =>
    unfold e_nl
    simp only [ld_cons]
    by_cases h : j = i
    · subst h; simp; rfl
    · rw [if_neg h, if_neg (by omega)]
theorem nl_cr (L : aL) (i k v : Nat) : e_nl ((i, .ref v) :: L) k = if k = i + 1 then true else e_nl L k := by
  cases k with
  | zero => rw [if_neg (by omega)]; rfl
  | succ j =>
    unfold e_nl
    simp only [ld_cons]
    by_cases h : j = i
    · subst h; simp; rfl
    · rw [if_neg h, if_neg (by omega)]
theorem nl_nil (k : Nat) : e_nl [] k = true := by cases k <;> rfl
