/-! THE START: the law's first instructions, the state that they leave -/
section
variable {sc : aS} {d : Nat}
def shB : List sE := [.inl (11, [36, 41, 44, 75, 77, 112, 113, 2, 0, 0]), .inl (9, [37, 38, 39, 40, 0, 0, 0, 0]), .inr (.inl (0, 240)), .inr (.inl (0, 5)), .inr (.inl (0, 32)), .inr (.inl (0, 80)), .inl (6, [42, 43, 0]), .inr (.inl (0, 320)), .inr (.inl (0, 4))]
  ++ (rowS 41 ++ ([.inl (4, [76, 0, 0]), .inr (.inr (.inl (3, 40, .inr (.inr (fun _ => none))))), .inl (3, [78, 109, 110, 111])] ++ (rowS 75 ++ ([.inr (.inl (0, 6)), .inr (.inl (0, 6)), .inr (.inl (0, 40)), .inl (0, [1, 0, 0, 0, 0, 0]), .inr (.inl (0, 4))] ++ ((List.range 15).map (modE 111) ++ [.inr (.inr (.inl (2, 1, .inr (.inl (fun _ => 0)))))])))))
def m0 (b j : Nat) : Int32 := bif Nat.beq b 32 then (bif Nat.beq j 9 then -1 else 0) else bif Nat.beq b 67 || Nat.beq b 101 then (bif Nat.beq j 1 then 60 else bif Nat.beq j 2 then 3 else 0) else bif Nat.beq b 69 || Nat.beq b 103 then (bif Nat.beq j 1 then 40 else bif Nat.beq j 2 then 5 else 0) else bif Nat.beq b 71 || Nat.beq b 105 then (bif Nat.beq j 8 then -1 else 0) else 0
def M0 : aM := (m0, fun _ _ => 0, fun _ => 0)
set_option maxRecDepth 100000 in
theorem mk_0 : mk shB M0 = busC ++ (modC 111 ++ [.inl (2, 1, .inr (.inl (fun _ => 0)))]) := rfl
theorem busC_len : busC.length = 79 := rfl
theorem law_start : ∃ L, LwL L 0 ∧ evp sc (d + 5) 296 0 [(0, .ref 0)] [] [] = evp sc (d + 5) 296 23 L [] (mk shB M0) := by
  have t1 := N_bus (sc := sc) (d := d)
  have t2 := N_mod (sc := sc) (d := d + 3) (h := busC)
  rw [busC_len] at t2
  have ct : ∀ x, e_cat [Value.ref x] = true := fun _ => rfl
  have n1 : e_nl [(0, Value.ref 0)] 1 = true := rfl
  refine ⟨e_st1 (e_st1 (e_st1 (e_st1 [(0, .ref 0)] 1 (.ref 32)) 2 (.ref 111)) 3 (.ref 126)) 4 (.int 0), ⟨?_, rfl, rfl, rfl, rfl, rfl⟩, ?_⟩
  · intro q hq
    simp only [e_st1, List.mem_cons, List.mem_filter, List.not_mem_nil, or_false] at hq
    rcases hq with rfl | ⟨rfl | ⟨rfl | ⟨rfl | ⟨rfl, -⟩, -⟩, -⟩, -⟩ <;> rfl
  · rw [mk_0]
    simp (decide := true) only [s296_0, s296_3r, s296_4, s296_7, s296_8, s296_11r, s296_12, s296_15, s296_16, s296_17, s296_19, s296_20, s296_21, nl_sti, nl_str, nl_ci, nl_cr, nl_nil, ld_cons, ld_st, lr_some, li_some, lj_some, n2_nl, n2_ci, n2_cr, n2_nil, n2_sti, n2_str, tl_some, tl_none, cat_le, List.length_cons, List.length_nil, Option.bind_some, Option.bind_none, Option.map_some, cond_true, cond_false, Bool.and_true, Bool.true_and, reduceIte, Nat.reduceEqDiff, Nat.reduceAdd, Nat.reduceLeDiff, Nat.zero_add, Nat.zero_le, Nat.zero_ne_one, Nat.one_ne_zero, Nat.reduceLT, true_or, or_true, false_or, or_false, false_and, true_and, and_false, and_true, not_false_eq_true, not_true_eq_false, eq_self, mA_A, mA_I, mI_A, mI_I, b01, b10, b01n, b10n, i10, i01, im0, ei_max, ei_min, ei_obj, n30, n20, List.nil_append, List.length_nil, Nat.reduceAdd, t1, t2, ct, busC_len, n1, nw1, nc1, List.length_append, modC_len, List.append_assoc]
set_option maxRecDepth 100000 in
theorem IV_0 : IV shB M0 0 := by
  have hr : ∀ a, (a = 41 ∨ a = 75) → RowSh shB a := fun a h k hk => by
    rcases h with rfl | rfl <;>
    rcases (show k = 0 ∨ k = 1 ∨ k = 2 ∨ k = 3 ∨ k = 4 ∨ k = 5 ∨ k = 6 ∨ k = 7 ∨ k = 8 ∨ k = 9 ∨ k = 10 ∨ k = 11 ∨ k = 12 ∨ k = 13 ∨ k = 14 ∨ k = 15 ∨ k = 16 ∨ k = 17 ∨ k = 18 ∨ k = 19 ∨ k = 20 ∨ k = 21 ∨ k = 22 ∨ k = 23 ∨ k = 24 ∨ k = 25 ∨ k = 26 ∨ k = 27 ∨ k = 28 ∨ k = 29 ∨ k = 30 by omega) with rfl | rfl | rfl | rfl | rfl | rfl | rfl | rfl | rfl | rfl | rfl | rfl | rfl | rfl | rfl | rfl | rfl | rfl | rfl | rfl | rfl | rfl | rfl | rfl | rfl | rfl | rfl | rfl | rfl | rfl | rfl <;> rfl
  have hm : ModSh shB 111 := fun k hk => by
    rcases (show k = 0 ∨ k = 1 ∨ k = 2 ∨ k = 3 ∨ k = 4 ∨ k = 5 ∨ k = 6 ∨ k = 7 ∨ k = 8 ∨ k = 9 ∨ k = 10 ∨ k = 11 ∨ k = 12 ∨ k = 13 ∨ k = 14 by omega) with rfl | rfl | rfl | rfl | rfl | rfl | rfl | rfl | rfl | rfl | rfl | rfl | rfl | rfl | rfl <;> rfl
  have hl : shB.length = 95 := rfl
  have hz : hzS shB ≤ 120000 := by
    have e := hzS_row 41
    have e2 := hzS_row 75
    unfold shB
    rw [hzS_app, hzS_app, hzS_app, hzS_app, hzS_app, hzS_app, e, e2]
    decide
  refine ⟨fun _ => none, 2, ⟨⟨⟨rfl, rfl⟩, hr 41 (Or.inl rfl), ⟨rfl, rfl⟩, hr 75 (Or.inr rfl), hm, by rw [hl]; decide, rfl, rfl, rfl, rfl, rfl, rfl, rfl, rfl, rfl, rfl, rfl, rfl, rfl, _, rfl⟩, by rw [hl]; omega, by omega⟩, ⟨0, by decide, rfl, rfl, fun i hi => absurd hi (Nat.not_lt_zero _)⟩, ⟨0, by decide, rfl, rfl, fun i hi => absurd hi (Nat.not_lt_zero _)⟩, fun _ _ => rfl, ⟨rfl, rfl, rfl, rfl⟩, Or.inl ⟨rfl, rfl, rfl, ⟨rfl, rfl, rfl, rfl⟩, rfl, rfl, rfl, ⟨0, by decide, rfl⟩, rfl, rfl, rfl, rfl, rfl, fun _ _ => rfl, fun _ _ => rfl, rfl⟩⟩
theorem law_all {sc : aS} {d : Nat} (hFC : Cal sc (d + 80) 159 276 []) (hs : sc.1 ≤ 3072) : ∃ h', evp sc (d + 81) 296 0 [(0, .ref 0)] [] [] = some (some (.int 1), h') := by
  obtain ⟨L, hL, e⟩ := law_start (sc := sc) (d := d + 76)
  have h1 := Nat.div_add_mod sc.1 6
  have h2 := Nat.mod_lt sc.1 (show 0 < 6 by decide)
  obtain ⟨sh', M', e', -⟩ := law_loop hFC (by omega) (sc.1 / 6) 0 shB M0 0 L (by omega) (by omega) IV_0 (by omega) hL
  exact ⟨_, e.trans e'⟩
end
