/-! AN ACT THAT MAY BE: what it tells of its numbers -/
theorem rng {x L H : Int32} {lo hi : Nat} (eL : L = nI lo) (eH : H = nI hi) (h1 : ¬ x < L) (h2 : ¬ H < x) (hl : lo ≤ hi) (hh : hi < 2 ^ 31) : ∃ j, lo ≤ j ∧ j ≤ hi ∧ x = nI j := by
  subst eL
  subst eH
  rw [Int32.lt_iff_toInt_lt, nI_toInt (by omega)] at h1
  rw [Int32.lt_iff_toInt_lt, nI_toInt hh] at h2
  refine ⟨x.toInt.toNat, by omega, by omega, Int32.toInt_inj.mp ?_⟩
  rw [nI_toInt (by omega)]
  omega
theorem cm_fine {n lv : Nat} {h : Nat → Int32} {x y v m : Int32} (hn : n ≤ 8) (hlv : 1 ≤ lv) (hlv3 : lv ≤ 3) (hf : cmRf (nI n) (nI lv) h x y v m = -1) : ∃ s g v' m', s < n ∧ g < n ∧ v' < lv ∧ 1 ≤ m' ∧ m' ≤ 9 ∧ ¬ s = g ∧ x = nI s ∧ y = nI g ∧ v = nI v' ∧ m = nI m' ∧ ¬ 30 < h s + nI m' := by
  unfold cmRf at hf
  by_cases c1 : (x < 0 ∨ nI n ≤ x) ∨ (y < 0 ∨ nI n ≤ y)
  · rw [if_pos c1] at hf; exact absurd hf (by decide)
  · rw [if_neg c1] at hf
    by_cases c2 : (v < 0 ∨ nI lv - 1 < v) ∨ (m < 1 ∨ 9 < m)
    · rw [if_pos c2] at hf; exact absurd hf (by decide)
    · rw [if_neg c2] at hf
      by_cases c3 : x = y
      · rw [if_pos c3] at hf; exact absurd hf (by decide)
      · rw [if_neg c3] at hf
        obtain ⟨s, s1, s2, s3⟩ := st_of hn (fun q => c1 (Or.inl q))
        obtain ⟨g, g1, g2, g3⟩ := st_of hn (fun q => c1 (Or.inr q))
        obtain ⟨v', v1, v2, v3⟩ := rng (x := v) (lo := 0) (hi := lv - 1) rfl (nI_pr (by omega)) (fun q => c2 (Or.inl (Or.inl q))) (fun q => c2 (Or.inl (Or.inr q))) (by omega) (by omega)
        obtain ⟨m', m1, m2, m3⟩ := rng (x := m) (lo := 1) (hi := 9) rfl rfl (fun q => c2 (Or.inr (Or.inl q))) (fun q => c2 (Or.inr (Or.inr q))) (by omega) (by omega)
        by_cases c4 : 30 < h x.toNatClampNeg + m
        · rw [if_pos c4] at hf; exact absurd hf (by decide)
        · rw [s3, m3] at c4
          exact ⟨s, g, v', m', s1, g1, by omega, m1, m2, fun e => c3 (by rw [s2, g2, e]), s2, g2, v3, m3, c4⟩
theorem tk_fine {n t : Nat} {x : Int32} (ht : t ≤ 10000) (hf : tkRf (nI n) (nI t) x = -1) : ∃ m, 1 ≤ m ∧ m ≤ 60 ∧ x = nI m ∧ t + m ≤ 9999 := by
  unfold tkRf at hf
  by_cases c1 : nI n = 0
  · rw [if_pos c1] at hf; exact absurd hf (by decide)
  · rw [if_neg c1] at hf
    by_cases c2 : x < 1 ∨ 60 < x
    · rw [if_pos c2] at hf; exact absurd hf (by decide)
    · rw [if_neg c2] at hf
      obtain ⟨m, m1, m2, m3⟩ := rng (x := x) (lo := 1) (hi := 60) rfl rfl (fun q => c2 (Or.inl q)) (fun q => c2 (Or.inr q)) (by omega) (by omega)
      by_cases c4 : 9999 < nI t + x
      · rw [if_pos c4] at hf; exact absurd hf (by decide)
      · refine ⟨m, m1, m2, m3, ?_⟩
        rw [m3, nI_add] at c4
        rcases Nat.lt_or_ge 9999 (t + m) with q | q
        · exact absurd (show (9999 : Int32) < nI (t + m) from nI_lt (a := 9999) q (by omega)) c4
        · exact q
theorem hp_fine {n : Nat} {cuts must x : Int32} (hn2 : 2 ≤ n) (hn : n ≤ 8) (hf : hpRf (nI n) cuts must x = -1) : ∃ p, p < n - 1 ∧ x = nI p ∧ (if (cuts >>> (nI p &&& 31)) &&& 1 = 0 then (0 : Int32) else 1) = must := by
  unfold hpRf at hf
  by_cases c1 : x < 0 ∨ nI n - 1 ≤ x
  · rw [if_pos c1] at hf; exact absurd hf (by decide)
  · rw [if_neg c1] at hf
    rw [nI_pr (by omega)] at c1
    obtain ⟨p, p1, p2, p3⟩ := st_of (n := n - 1) (by omega) c1
    subst p2
    by_cases c2 : (if (cuts >>> (nI p &&& 31)) &&& 1 = 0 then (0 : Int32) else 1) = must
    · exact ⟨p, p1, rfl, c2⟩
    · rw [if_neg c2] at hf; exact absurd hf (by decide)
theorem rs_fine {n : Nat} {ev ho : Nat → Int32} {b s e : Int32} (hn : n ≤ 8) (hf : rsRf (nI n) ev ho b s e = -1) : ∃ b' s' e', b' < 2 ∧ s' < n ∧ e' ≤ 9 ∧ ¬ e' = 1 ∧ b = nI b' ∧ s = nI s' ∧ e = nI e' := by
  unfold rsRf at hf
  by_cases c1 : s < 0 ∨ nI n ≤ s
  · rw [if_pos c1] at hf; exact absurd hf (by decide)
  · rw [if_neg c1] at hf
    by_cases c2 : ¬ (b = 0 ∨ b = 1) ∨ (¬ e = 0 ∧ (e < 2 ∨ 9 < e))
    · rw [if_pos c2] at hf; exact absurd hf (by decide)
    · obtain ⟨s', s1, s2, s3⟩ := st_of hn c1
      have hb : b = 0 ∨ b = 1 := Classical.byContradiction (fun q => c2 (Or.inl q))
      obtain ⟨b', b1, b2⟩ : ∃ b', b' < 2 ∧ b = nI b' := by
        rcases hb with q | q
        · exact ⟨0, by decide, q⟩
        · exact ⟨1, by decide, q⟩
      by_cases c3 : e = 0
      · exact ⟨b', s', 0, b1, s1, by omega, by omega, b2, s2, c3⟩
      · obtain ⟨e', e1, e2, e3⟩ := rng (x := e) (lo := 2) (hi := 9) rfl rfl (fun q => c2 (Or.inr ⟨c3, Or.inl q⟩)) (fun q => c2 (Or.inr ⟨c3, Or.inr q⟩)) (by omega) (by omega)
        exact ⟨b', s', e', b1, s1, e2, by omega, b2, s2, e3⟩
section
variable {sc : aS} {d : Nat} {sh : List sE} {M W R : aM} {a w : Nat} {f : Nat → Int32} {h : aH}
theorem R_sever (hS : RowSh sh a) {p : Nat} (hp : p < 7) : evp sc (d + 2) 74 0 [(0, .ref a), (1, .int (nI p))] [] (mk sh (gl M a 31 R)) = some (some (.int (nI (hCt (R.2.1 18) 8 (p * 64)))), mk sh (gl M a 31 (rCut R p))) := by
  have t1 := R_empty (sc := sc) (d := d) (M := M) (R := R) hS hp
  have e1 : (hEm 8 (p * 64) R).1 0 5 = R.1 0 5 := by rw [hEm_I]
  simp only [s74_0, s74_1, s74_4, s74_5, s74_8, s74_9, s74_10, s74_10r, s74_11, s74_14, s74_15, s74_16, s74_17, s74_18, s74_21, s74_22, s74_25, s74_26, s74_29, s74_30, nl_sti, nl_str, nl_ci, nl_cr, nl_nil, ld_cons, ld_st, lr_some, li_some, lj_some, n2_nl, n2_ci, n2_cr, n2_nil, n2_sti, n2_str, tl_some, tl_none, cat_le, List.length_cons, List.length_nil, Option.bind_some, Option.bind_none, Option.map_some, cond_true, cond_false, Bool.and_true, Bool.true_and, reduceIte, Nat.reduceEqDiff, Nat.reduceAdd, Nat.reduceLeDiff, Nat.zero_add, Nat.zero_le, Nat.zero_ne_one, Nat.one_ne_zero, Nat.reduceLT, true_or, or_true, false_or, or_false, false_and, true_and, and_false, and_true, not_false_eq_true, not_true_eq_false, eq_self, mA_A, mA_I, mI_A, mI_I, b01, b10, b01n, b10n, i10, i01, im0, ei_max, ei_min, ei_obj, n30, n20, b011, b101, orn, nor, dneg, dnle, dne, dcl, cat0, cat1, cat2, cat3, cat4, gR0_0, pR0_0, gR0_1, pR0_1, gR0_2, pR0_2, gR0_3, pR0_3, gR0_4, pR0_4, gR0_5, pR0_5, gR0_6, pR0_6, gR0_7, gR0_8, gR0_9, gR0_10, gR0_11, gR0_12, gR0_13, gR0_14, gR0_15, gR0_16, cR0, cR5, cR17, cR19, cR26, cR28, cR30, hS, t1, e1, T_addLost hS, rCut]
end
