/-! THE LIMIT OVER THE STEPS: evp, by equations -/
theorem e_line_mono2 {K K' : aK} (hK : ∀ (d mid pc : Nat) (L : aL) (S : List Value) (h : aH) (r : Option Value × aH), K d mid pc L S h = some r → K' d mid pc L S h = some r) {d : Nat} {av : List Value} {h : aH} {r : Option Value × aH} (he : e_line K d av h = some r) : e_line K' d av h = some r := by
  unfold e_line at he ⊢
  split at he
  · split at he
    · rename_i hc
      split at he
      · rename_i hf
        split at he
        · rename_i b h0 hk0
          (try simp only [hc, hf, hK _ _ _ _ _ _ _ hk0])
          split at he
          · rename_i hcnd
            rw [if_pos hcnd]
            exact he
          · rename_i hcnd
            rw [if_neg hcnd]
            split at he
            · rename_i hk1
              (try simp only [hK _ _ _ _ _ _ _ hk1])
              exact he
            · cases he
        · cases he
      · cases he
    · cases he
  · cases he
theorem e_call_mono {sc : aS} {K K' : aK} (hK : ∀ (d mid pc : Nat) (L : aL) (S : List Value) (h : aH) (r : Option Value × aH), K d mid pc L S h = some r → K' d mid pc L S h = some r) {d mid : Nat} {L : aL} {S : List Value} {h : aH} {i : Instr} {nx x y : Nat} {r : Option Value × aH} (he : e_call sc K d mid L S h i nx x y = some r) : e_call sc K' d mid L S h i nx x y = some r := by
  unfold e_call at he ⊢
  cases hcnd : (Nat.ble y S.length && e_cat (S.drop y) && e_rcv i x (S.take y).reverse h && (Nat.blt 999 x || Nat.ble ((S.take y).map fun v => v.category).sum (pM x))) with
  | false => rw [hcnd] at he; cases he
  | true =>
    rw [hcnd] at he
    simp only [cond_true] at he ⊢
    split at he
    · cases he
    · cases hx9 : Nat.blt x 1000 with
      | true =>
        rw [hx9] at he
        simp only [cond_true] at he ⊢
        split at he
        · rename_i hk
          (try simp only [hK _ _ _ _ _ _ _ hk])
          exact hK _ _ _ _ _ _ _ he
        · cases he
      | false =>
        rw [hx9] at he
        simp only [cond_false] at he ⊢
        cases hx7 : Nat.beq x 1007 with
        | true =>
          rw [hx7] at he
          simp only [cond_true] at he ⊢
          split at he
          · rename_i hk
            (try simp only [e_line_mono2 hK hk])
            exact hK _ _ _ _ _ _ _ he
          · cases he
        | false =>
          rw [hx7] at he
          simp only [cond_false] at he ⊢
          cases hx4 : (Nat.blt x 1004 || Nat.ble 8 _) with
          | false => rw [hx4] at he; cases he
          | true =>
          rw [hx4] at he
          simp only [cond_true] at he ⊢
          split at he
          · rename_i hk
            (try simp only [hk])
            exact hK _ _ _ _ _ _ _ he
          · cases he
theorem e_go_mono {sc : aS} {K K' : aK} (hK : ∀ (d mid pc : Nat) (L : aL) (S : List Value) (h : aH) (r : Option Value × aH), K d mid pc L S h = some r → K' d mid pc L S h = some r) {d mid pc : Nat} {L : aL} {S : List Value} {h : aH} {i : Instr} {nx x y : Nat} {r : Option Value × aH} (he : e_go sc K d mid pc L S h i nx x y = some r) : e_go sc K' d mid pc L S h i nx x y = some r := by
  unfold e_go at he ⊢
  split at he
  · rename_i q; (try simp only [q]); exact hK _ _ _ _ _ _ _ he
  · rename_i q0
    (try simp only [q0])
    split at he
    · rename_i q; (try simp only [q]); exact hK _ _ _ _ _ _ _ he
    · rename_i q1
      (try simp only [q1])
      split at he
      · rename_i b S' q
        (try simp only [q])
        cases b <;> exact hK _ _ _ _ _ _ _ he
      · rename_i q2
        (try simp only [q2])
        split at he
        · rename_i q; (try simp only [q]); exact hK _ _ _ _ _ _ _ he
        · rename_i q3
          (try simp only [q3])
          split at he
          · rename_i q; (try simp only [q]); exact hK _ _ _ _ _ _ _ he
          · rename_i q4
            (try simp only [q4])
            split at he
            · rename_i q; (try simp only [q]); exact hK _ _ _ _ _ _ _ he
            · rename_i q5
              (try simp only [q5])
              split at he
              · rename_i q; (try simp only [q]); exact he
              · rename_i q6
                (try simp only [q6])
                split at he
                · rename_i q; (try simp only [q]); exact hK _ _ _ _ _ _ _ he
                · rename_i q7
                  (try simp only [q7])
                  exact e_call_mono hK he
theorem evS_mono {sc : aS} {K K' : aK} (hK : ∀ (d mid pc : Nat) (L : aL) (S : List Value) (h : aH) (r : Option Value × aH), K d mid pc L S h = some r → K' d mid pc L S h = some r) {d mid pc : Nat} {L : aL} {S : List Value} {h : aH} {r : Option Value × aH} (he : evS sc K d mid pc L S h = some r) : evS sc K' d mid pc L S h = some r := by
  unfold evS at he ⊢
  split at he
  · rename_i q; (try simp only [q]); exact e_go_mono hK he
  · cases he
theorem ev_mono1 {sc : aS} : ∀ (n d mid pc : Nat) (L : aL) (S : List Value) (h : aH) (r : Option Value × aH), ev sc n d mid pc L S h = some r → ev sc (n + 1) d mid pc L S h = some r
  | 0, _, _, _, _, _, _, _, he => by cases he
  | n + 1, d, mid, pc, L, S, h, r, he => by
    rw [ev_succ] at he ⊢
    exact evS_mono (ev_mono1 n) he
theorem ev_mono {sc : aS} {n m : Nat} (hnm : n ≤ m) {d mid pc : Nat} {L : aL} {S : List Value} {h : aH} {r : Option Value × aH} (he : ev sc n d mid pc L S h = some r) : ev sc m d mid pc L S h = some r := by
  induction hnm with
  | refl => exact he
  | step _ ih => exact ev_mono1 _ _ _ _ _ _ _ _ ih
noncomputable def evp (sc : aS) : aK := fun d mid pc L S h => @dite _ (∃ (r : Option Value × aH) (n : Nat), ev sc n d mid pc L S h = some r) (Classical.propDecidable _) (fun q => some (Classical.choose q)) (fun _ => none)
theorem evp_of {sc : aS} {n d mid pc : Nat} {L : aL} {S : List Value} {h : aH} {r : Option Value × aH} (he : ev sc n d mid pc L S h = some r) : evp sc d mid pc L S h = some r := by
  have hx : ∃ (r : Option Value × aH) (n : Nat), ev sc n d mid pc L S h = some r := ⟨r, n, he⟩
  unfold evp
  rw [dif_pos hx]
  obtain ⟨m, hm⟩ := Classical.choose_spec hx
  have h1 := ev_mono (Nat.le_max_left n m) he
  have h2 := ev_mono (Nat.le_max_right n m) hm
  exact h2.symm.trans h1
theorem evp_ex {sc : aS} {d mid pc : Nat} {L : aL} {S : List Value} {h : aH} {r : Option Value × aH} (he : evp sc d mid pc L S h = some r) : ∃ n, ev sc n d mid pc L S h = some r := by
  unfold evp at he
  split at he
  · rename_i hx
    have h1 := Classical.choose_spec hx
    rw [Option.some.inj he] at h1
    exact h1
  · cases he
theorem e_line_cont {sc : aS} {d : Nat} {av : List Value} {h : aH} {r : Option Value × aH} (hk : e_line (evp sc) d av h = some r) : ∃ n, e_line (ev sc n) d av h = some r := by
  unfold e_line at hk
  split at hk
  · split at hk
    · rename_i hc
      split at hk
      · rename_i hf
        split at hk
        · rename_i hk0
          obtain ⟨n0, hn0⟩ := evp_ex hk0
          split at hk
          · rename_i hcn
            refine ⟨n0, ?_⟩
            unfold e_line
            simp only [hc, hf, hn0]
            rw [if_pos hcn]
            exact hk
          · rename_i hcn
            split at hk
            · rename_i hk1
              obtain ⟨n1, hn1⟩ := evp_ex hk1
              refine ⟨max n0 n1, ?_⟩
              unfold e_line
              simp only [hc, hf, ev_mono (Nat.le_max_left n0 n1) hn0, ev_mono (Nat.le_max_right n0 n1) hn1]
              rw [if_neg hcn]
              exact hk
            · cases hk
        · cases hk
      · cases hk
    · cases hk
  · cases hk
theorem evp_fix {sc : aS} {d mid pc : Nat} {L : aL} {S : List Value} {h : aH} : evp sc d mid pc L S h = evS sc (evp sc) d mid pc L S h := by
  have up : ∀ (n d mid pc : Nat) (L : aL) (S : List Value) (h : aH) (r : Option Value × aH), ev sc n d mid pc L S h = some r → evp sc d mid pc L S h = some r := fun _ _ _ _ _ _ _ _ q => evp_of q
  apply Option.ext
  intro r
  constructor
  · intro he
    obtain ⟨n, hn⟩ := evp_ex he
    cases n with
    | zero => cases hn
    | succ n =>
      rw [ev_succ] at hn
      exact evS_mono (up n) hn
  · intro he
    have fin : ∀ n, evS sc (ev sc n) d mid pc L S h = some r → evp sc d mid pc L S h = some r := fun n q => evp_of (n := n + 1) (by rw [ev_succ]; exact q)
    unfold evS at he fin
    split at he
    · rename_i i nx x y hpt
      rw [hpt] at fin
      simp only at fin
      have up2 : ∀ {n m : Nat} {d mid pc : Nat} {L : aL} {S : List Value} {h : aH} {r : Option Value × aH}, ev sc n d mid pc L S h = some r → ev sc (max n m) d mid pc L S h = some r := fun q => ev_mono (Nat.le_max_left _ _) q
      have up3 : ∀ {n m : Nat} {d mid pc : Nat} {L : aL} {S : List Value} {h : aH} {r : Option Value × aH}, ev sc m d mid pc L S h = some r → ev sc (max n m) d mid pc L S h = some r := fun q => ev_mono (Nat.le_max_right _ _) q
      unfold e_go at he fin
      split at he
      · rename_i q
        simp only [q] at fin
        obtain ⟨n, hn⟩ := evp_ex he
        exact fin n hn
      · rename_i q0
        simp only [q0] at fin
        split at he
        · rename_i q
          simp only [q] at fin
          obtain ⟨n, hn⟩ := evp_ex he
          exact fin n hn
        · rename_i q1
          simp only [q1] at fin
          split at he
          · rename_i b S' q
            simp only [q] at fin
            cases b with
            | true =>
              obtain ⟨n, hn⟩ := evp_ex he
              exact fin n hn
            | false =>
              obtain ⟨n, hn⟩ := evp_ex he
              exact fin n hn
          · rename_i q2
            simp only [q2] at fin
            split at he
            · rename_i q
              simp only [q] at fin
              obtain ⟨n, hn⟩ := evp_ex he
              exact fin n hn
            · rename_i q3
              simp only [q3] at fin
              split at he
              · rename_i q
                simp only [q] at fin
                obtain ⟨n, hn⟩ := evp_ex he
                exact fin n hn
              · rename_i q4
                simp only [q4] at fin
                split at he
                · rename_i q
                  simp only [q] at fin
                  obtain ⟨n, hn⟩ := evp_ex he
                  exact fin n hn
                · rename_i q5
                  simp only [q5] at fin
                  split at he
                  · rename_i q
                    simp only [q] at fin
                    exact fin 0 he
                  · rename_i q6
                    simp only [q6] at fin
                    split at he
                    · rename_i q
                      simp only [q] at fin
                      obtain ⟨n, hn⟩ := evp_ex he
                      exact fin n hn
                    · rename_i q7
                      simp only [q7] at fin
                      unfold e_call at he fin
                      cases hcnd : (Nat.ble y S.length && e_cat (S.drop y) && e_rcv i x (S.take y).reverse h && (Nat.blt 999 x || Nat.ble ((S.take y).map fun v => v.category).sum (pM x))) with
                      | false => rw [hcnd] at he; cases he
                      | true =>
                        rw [hcnd] at he fin
                        simp only [cond_true] at he fin
                        split at he
                        · cases he
                        · cases hx9 : Nat.blt x 1000 with
                          | true =>
                            rw [hx9] at he fin
                            simp only [cond_true] at he fin
                            split at he
                            · rename_i hk
                              obtain ⟨n, hn⟩ := evp_ex hk
                              obtain ⟨k, hk'⟩ := evp_ex he
                              refine fin (max n k) ?_
                              simp only [up2 hn]
                              exact up3 hk'
                            · cases he
                          | false =>
                            rw [hx9] at he fin
                            simp only [cond_false] at he fin
                            cases hx7 : Nat.beq x 1007 with
                            | true =>
                              rw [hx7] at he fin
                              simp only [cond_true] at he fin
                              split at he
                              · rename_i hk
                                have hk2 := e_line_cont hk
                                obtain ⟨n, hn⟩ := hk2
                                obtain ⟨k, hk'⟩ := evp_ex he
                                refine fin (max n k) ?_
                                simp only [e_line_mono2 (K' := ev sc (max n k)) (fun _ _ _ _ _ _ _ q => up2 q) hn]
                                exact up3 hk'
                              · cases he
                            | false =>
                              rw [hx7] at he fin
                              simp only [cond_false] at he fin
                              cases hx4 : (Nat.blt x 1004 || Nat.ble 8 _) with
                              | false => rw [hx4] at he; cases he
                              | true =>
                              rw [hx4] at he fin
                              simp only [cond_true] at he fin
                              split at he
                              · rename_i hk
                                obtain ⟨k, hk'⟩ := evp_ex he
                                refine fin k ?_
                                simp only [hk]
                                exact hk'
                              · cases he
    · cases he
