/-! small rules for running methods by simp -/
theorem ld_cons (i k : Nat) (v : Value) (L : aL) : e_ld ((i, v) :: L) k = if k = i then some v else e_ld L k := by
  unfold e_ld
  by_cases h : k = i
  · subst h; simp
  · rw [if_neg h, List.find?_cons_of_neg (by simpa using Ne.symm h)]
theorem n2_ci (i : Nat) (v : Int32) (L : aL) : e_n2 ((i, .int v) :: L) ↔ e_n2 L := ⟨fun h q hq => h q (List.mem_cons_of_mem _ hq), fun h q hq => (List.mem_cons.mp hq).elim (fun e => by rw [e]; rfl) (h q)⟩
theorem n2_cr (i : Nat) (v : Nat) (L : aL) : e_n2 ((i, .ref v) :: L) ↔ e_n2 L := ⟨fun h q hq => h q (List.mem_cons_of_mem _ hq), fun h q hq => (List.mem_cons.mp hq).elim (fun e => by rw [e]; rfl) (h q)⟩
theorem n2_nil : e_n2 [] ↔ True := ⟨fun _ => trivial, fun _ q hq => by cases hq⟩
theorem n2_sti {L : aL} (h : e_n2 L) (i : Nat) (v : Int32) : e_n2 (e_st1 L i (.int v)) ↔ True := ⟨fun _ => trivial, fun _ => n2_st h i rfl⟩
theorem n2_str {L : aL} (h : e_n2 L) (i v : Nat) : e_n2 (e_st1 L i (.ref v)) ↔ True := ⟨fun _ => trivial, fun _ => n2_st h i rfl⟩
theorem tl_some (v : Value) (S : List Value) : (some v).toList ++ S = v :: S := rfl
theorem tl_none (S : List Value) : (none : Option Value).toList ++ S = S := rfl
theorem cat_le {S : List Value} (h : S.length ≤ 4) : e_cat S = true := by
  have key : ∀ T : List Value, (T.map fun v => v.category).sum ≤ 2 * T.length := by
    intro T
    induction T with
    | nil => simp
    | cons v T ih =>
      simp only [List.map_cons, List.sum_cons, List.length_cons]
      rcases lv_cat v with q | q <;> omega
  have := key S
  simp only [e_cat, decide_eq_true_eq]
  omega
theorem in_nI {l n : Nat} (h : l < n) (hn : n < 2 ^ 31) : (nI l < 0 ∨ n ≤ (nI l).toNatClampNeg) ↔ False := iff_of_false (nI_in h hn) id
