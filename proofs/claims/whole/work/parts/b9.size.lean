/-! HOW MUCH THE LAW LEAVES IN THE HEAP -/
theorem e_sz_mkc (a : Nat) (M : aM) : ∀ s : sE, e_sz (mkc a s M) = s_sz s
  | .inl (ci, fl) => by
    show (mkfs a M 0 fl).length = fl.length
    exact mkfs_len a M fl 0
  | .inr (.inl (tc, n)) => rfl
  | .inr (.inr e) => rfl
theorem hz_mkl (M : aM) : ∀ (sh : List sE) (a : Nat), hz (mkl M a sh) = hzS sh
  | [], _ => rfl
  | s :: l, a => by
    have ih := hz_mkl M l (a + 1)
    unfold hz hzS at ih ⊢
    show ((mkc a s M :: mkl M (a + 1) l).map e_sz).sum = ((s :: l).map s_sz).sum
    rw [List.map_cons, List.map_cons, List.sum_cons, List.sum_cons, ih, e_sz_mkc]
theorem hz_mk (sh : List sE) (M : aM) : hz (mk sh M) = hzS sh := hz_mkl M sh 32
theorem IV_size {sh : List sE} {M : aM} {B : Nat} (h : IV sh M B) : (mk sh M).length ≤ 1366 + B / 1000000 ∧ hz (mk sh M) ≤ 210815 + 6 * (B / 1000000) := by
  obtain ⟨F, kk, ⟨-, z1, z2⟩, -⟩ := h
  have c1 := cnF_le F 40
  have c2 : kN kk ≤ 1 := by unfold kN; split <;> omega
  rw [mk_len, hz_mk]
  exact ⟨by omega, by omega⟩
theorem law_run {sc : aS} {d : Nat} (hs : sc.1 ≤ 3072) : ∃ h', evp sc (d + 81) 296 0 [(0, .ref 0)] [] [] = some (some (.int 1), h') ∧ h'.length ≤ 1878 ∧ hz h' ≤ 213887 := by
  obtain ⟨L, hL, e⟩ := law_start (sc := sc) (d := d + 76)
  have h1 := Nat.div_add_mod sc.1 6
  have h2 := Nat.mod_lt sc.1 (show 0 < 6 by decide)
  obtain ⟨sh', M', e', i⟩ := law_loop (sc := sc) (d := d) V_first (by omega) (sc.1 / 6) 0 shB M0 0 L (by omega) (by omega) IV_0 (by omega) hL
  have z := IV_size i
  have z3 : (0 + 1000000 * (sc.1 / 6)) / 1000000 ≤ 512 := by omega
  exact ⟨mk sh' M', e.trans e', by omega, by omega⟩
