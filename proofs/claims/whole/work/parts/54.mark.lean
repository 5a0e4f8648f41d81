/-! COUNTED BY A MARK: number, from, to, level -/
abbrev Tg : Type := Int32 × Nat × Nat × Int32
def cw (p : Tg → Bool) (s : Nat) (l : List Sg) : Nat := l.countP (fun x => p (x.1, s, x.2.1, nI x.2.2.1))
def CW (p : Tg → Bool) (wl : Nat → List Sg) : Nat := cw p 0 (wl 0) + cw p 1 (wl 1) + cw p 2 (wl 2) + cw p 3 (wl 3) + cw p 4 (wl 4) + cw p 5 (wl 5) + cw p 6 (wl 6) + cw p 7 (wl 7)
def ce (p : Tg → Bool) (e : Se) : Nat := if p (zN e, zF e, zT e, zL e) = true then ur e else 0
def ceO (p : Tg → Bool) : Option Se → Nat
  | none => 0
  | some e => ce p e
def cl (p : Tg → Bool) (L : List (Option Se)) : Nat := (L.map (ceO p)).sum
def CN (p : Tg → Bool) (Ln : Nat → List (Option Se)) : Nat := cl p (Ln 0) + cl p (Ln 1) + cl p (Ln 2) + cl p (Ln 3) + cl p (Ln 4) + cl p (Ln 5) + cl p (Ln 6) + cl p (Ln 7) + cl p (Ln 8) + cl p (Ln 9) + cl p (Ln 10) + cl p (Ln 11) + cl p (Ln 12) + cl p (Ln 13)
def LV (p : Tg → Bool) (wl : Nat → List Sg) (Ln : Nat → List (Option Se)) (h : Option Se) : Nat := CW p wl + CN p Ln + ceO p h
/-- from and to are numbers of stations -/
def wfA (x : Nat → Int32) : Bool := decide (x 1 = nI (x 1).toNatClampNeg ∧ x 2 = nI (x 2).toNatClampNeg)
def ca (p : Tg → Bool) (nw : List (Nat → Int32)) : Nat := nw.countP (fun x => p (x 0, (x 1).toNatClampNeg, (x 2).toNatClampNeg, x 4) || !wfA x)
theorem CW_upl {p : Tg → Bool} {wl : Nat → List Sg} {s : Nat} {l : List Sg} (hs : s < 8) : CW p (upl wl s l) + cw p s (wl s) = CW p wl + cw p s l := by
  unfold CW
  rcases (show s = 0 ∨ s = 1 ∨ s = 2 ∨ s = 3 ∨ s = 4 ∨ s = 5 ∨ s = 6 ∨ s = 7 by omega) with rfl | rfl | rfl | rfl | rfl | rfl | rfl | rfl <;> simp only [upl, if_true, Nat.reduceEqDiff, if_false, reduceIte] <;> omega
theorem CN_upl {p : Tg → Bool} {Ln : Nat → List (Option Se)} {q : Nat} {L : List (Option Se)} (hq : q < 14) : CN p (upl Ln q L) + cl p (Ln q) = CN p Ln + cl p L := by
  unfold CN
  rcases (show q = 0 ∨ q = 1 ∨ q = 2 ∨ q = 3 ∨ q = 4 ∨ q = 5 ∨ q = 6 ∨ q = 7 ∨ q = 8 ∨ q = 9 ∨ q = 10 ∨ q = 11 ∨ q = 12 ∨ q = 13 by omega) with rfl | rfl | rfl | rfl | rfl | rfl | rfl | rfl | rfl | rfl | rfl | rfl | rfl | rfl <;> simp only [upl, if_true, Nat.reduceEqDiff, if_false, reduceIte] <;> omega
theorem cl_cons (p : Tg → Bool) (x : Option Se) (L : List (Option Se)) : cl p (x :: L) = ceO p x + cl p L := by simp [cl]
theorem cl_app (p : Tg → Bool) (L : List (Option Se)) (x : Option Se) : cl p (L ++ [x]) = cl p L + ceO p x := by simp [cl]
theorem cw_mid (p : Tg → Bool) (s : Nat) (l1 l2 : List Sg) (x : Sg) : cw p s (l1 ++ x :: l2) = cw p s (l1 ++ l2) + (if p (x.1, s, x.2.1, nI x.2.2.1) = true then 1 else 0) := by
  unfold cw
  rw [List.countP_append, List.countP_append, List.countP_cons]
  omega
theorem ce0 {p : Tg → Bool} {e : Se} (h : ur e = 0) : ce p e = 0 := by
  unfold ce
  rw [h]
  split <;> rfl
theorem ur0 {e : Se} (h : zN e = 0) : ur e = 0 := by
  unfold ur
  rw [if_pos (Or.inl h)]
theorem Prov_cnt {p : Tg → Bool} {s : Nat} {wl wl' : Nat → List Sg} {e e' : Se} {nw : List (Nat → Int32)} (h : Prov s wl wl' e e' nw) (hs : s < 8) (h1 : zF e < 8) (h2 : zT e < 8) : ca p nw + CW p wl' + ce p e' ≤ CW p wl + ce p e := by
  obtain ⟨e1, hr, hf⟩ := h
  have k1 : ca p nw + ce p e1 ≤ ce p e := by
    rcases hr with ⟨q1, q2 | ⟨q2, q3⟩⟩ | ⟨x, q1, q2, q3, q4, q5, q6, q7⟩
    · subst q1; subst q2
      show 0 + _ ≤ _
      omega
    · subst q1
      rw [ce0 (ur0 q2)]
      exact Nat.zero_le _
    · subst q1
      rw [ce0 q3]
      have hw : wfA x = true := by
        unfold wfA
        rw [q5, q6, nI_clamp (by omega), nI_clamp (by omega)]
        exact decide_eq_true ⟨rfl, rfl⟩
      unfold ca ce
      rw [List.countP_cons, List.countP_nil, hw, Bool.not_true, Bool.or_false, q4, q5, q6, q7, nI_clamp (by omega), nI_clamp (by omega), q2]
      omega
  have k2 : CW p wl' + ce p e' ≤ CW p wl + ce p e1 := by
    rcases hf with ⟨q1, q2, q3, q4, q5, q6⟩ | ⟨q0, l1, x, l2, q1, q2, q3, q4, q5, q6, q7⟩
    · subst q1
      have : ce p e' = ce p e1 := by
        unfold ce ur
        rw [q2, q3, q4, q5, q6]
      omega
    · have := CW_upl (p := p) (wl := wl) (l := l1 ++ l2) hs
      rw [q1, cw_mid] at this
      rw [← q2] at this
      have e1' : ce p e' ≤ (if p (x.1, s, x.2.1, nI x.2.2.1) = true then 1 else 0) := by
        unfold ce
        rw [q3, q4, q5, q7]
        split
        · unfold ur; split <;> omega
        · exact Nat.le_refl 0
      omega
  omega
/-- the mark that all bear -/
def tt : Tg → Bool := fun _ => true
theorem CW_tt (wl : Nat → List Sg) : CW tt wl = tot wl := by
  have : ∀ (s : Nat) (l : List Sg), cw tt s l = l.length := by
    intro s l
    unfold cw tt
    exact List.countP_true ▸ rfl
  unfold CW tot
  simp only [this]
theorem CN_tt (Ln : Nat → List (Option Se)) : CN tt Ln = uS Ln := by
  have : ∀ L : List (Option Se), cl tt L = uL L := by
    intro L
    unfold cl uL
    congr 1
  unfold CN uS
  simp only [this]
theorem ca_tt (nw : List (Nat → Int32)) : ca tt nw = nw.length := by
  unfold ca tt
  simp only [Bool.true_or]
  exact List.countP_true ▸ rfl
theorem ca_app (p : Tg → Bool) (a b : List (Nat → Int32)) : ca p (a ++ b) = ca p a + ca p b := List.countP_append
