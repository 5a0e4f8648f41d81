/-! A ROW as a text: both read the same -/
def EqI (n : Nat) (q1 q2 : Except Nat ((Nat → Int32) × List Nat)) : Prop := match q1, q2 with
  | .error p, .error p' => p = p'
  | .ok a, .ok b => a.2 = b.2 ∧ ∀ j, j < n → a.1 j = b.1 j
  | _, _ => False
theorem up_cg {g1 g2 : Nat → Int32} {n i : Nat} {v : Int32} (h : ∀ j, j < n → g1 j = g2 j) : ∀ j, j < n → up g1 i v j = up g2 i v j := fun j hj => by
  unfold up
  split
  · rfl
  · exact h j hj
theorem itP_cg {T ls : List Nat} {lo hi : Nat → Nat} {b n : Nat} : ∀ (k s : Nat) (g1 g2 : Nat → Int32) (r : List Nat), (∀ j, j < n → g1 j = g2 j) → EqI n (itP T ls lo hi b k s g1 r) (itP T ls lo hi b k s g2 r)
  | 0, s, g1, g2, r, h => ⟨rfl, h⟩
  | k + 1, s, g1, g2, r, h => by
    have e : ∀ g, itP T ls lo hi b (k + 1) s g r = (match ixr ls (sk r) with
      | none => Except.ok (g, sk r)
      | some i => if s.testBit i = true then .error (po T (sk r)) else
        if nok 3 (sk r).tail = true then
          (if lo i ≤ nv 3 (sk r).tail ∧ nv 3 (sk r).tail ≤ hi i then itP T ls lo hi b k (s ||| 2 ^ i) (up g (b + i) (nI (nv 3 (sk r).tail))) (nr 3 (sk r).tail) else .error (po T (nr 3 (sk r).tail) - 1))
        else .error (po T (nr 3 (sk r).tail))) := fun g => rfl
    rw [e, e]
    cases ixr ls (sk r) with
    | none => exact ⟨rfl, h⟩
    | some i =>
      simp only
      by_cases q1 : s.testBit i = true
      · rw [if_pos q1, if_pos q1]
        exact rfl
      · rw [if_neg q1, if_neg q1]
        by_cases q2 : nok 3 (sk r).tail = true
        · rw [if_pos q2, if_pos q2]
          by_cases q3 : lo i ≤ nv 3 (sk r).tail ∧ nv 3 (sk r).tail ≤ hi i
          · rw [if_pos q3, if_pos q3]
            exact itP_cg k _ _ _ _ (up_cg h)
          · rw [if_neg q3, if_neg q3]
            exact rfl
        · rw [if_neg q2, if_neg q2]
          exact rfl
/-- within its bounds -/
def Bnd (lo hi : Nat → Nat) (n b : Nat) (g : Nat → Int32) : Prop := ∀ i, i < n → ∃ x, lo i ≤ x ∧ x ≤ hi i ∧ g (b + i) = nI x
theorem itP_b {T ls : List Nat} {lo hi : Nat → Nat} {b : Nat} : ∀ (k s : Nat) (g : Nat → Int32) (r : List Nat) (q : (Nat → Int32) × List Nat), Bnd lo hi ls.length b g → itP T ls lo hi b k s g r = .ok q → Bnd lo hi ls.length b q.1 ∧ ∀ j, (j < b ∨ b + ls.length ≤ j) → q.1 j = g j
  | 0, s, g, r, q, hg, h => by
    have : (g, r) = q := Except.ok.inj h
    rw [← this]
    exact ⟨hg, fun _ _ => rfl⟩
  | k + 1, s, g, r, q, hg, h => by
    have h : (match ixr ls (sk r) with
      | none => Except.ok (g, sk r)
      | some i => if s.testBit i = true then .error (po T (sk r)) else
        if nok 3 (sk r).tail = true then
          (if lo i ≤ nv 3 (sk r).tail ∧ nv 3 (sk r).tail ≤ hi i then itP T ls lo hi b k (s ||| 2 ^ i) (up g (b + i) (nI (nv 3 (sk r).tail))) (nr 3 (sk r).tail) else .error (po T (nr 3 (sk r).tail) - 1))
        else .error (po T (nr 3 (sk r).tail))) = Except.ok q := h
    cases hx : ixr ls (sk r) with
    | none =>
      rw [hx] at h
      have : (g, sk r) = q := Except.ok.inj h
      rw [← this]
      exact ⟨hg, fun _ _ => rfl⟩
    | some i =>
      rw [hx] at h
      simp only at h
      have hil : i < ls.length := by
        cases e : sk r with
        | nil => rw [e] at hx; cases hx
        | cons x y => rw [e] at hx; exact ix_lt hx
      split at h
      · cases h
      · split at h
        · split at h
          · rename_i hb
            obtain ⟨a1, a2⟩ := itP_b k _ _ _ q (fun j hj => by
              by_cases e : j = i
              · subst e
                exact ⟨_, hb.1, hb.2, by unfold up; rw [if_pos rfl]⟩
              · obtain ⟨x, x1, x2, x3⟩ := hg j hj
                exact ⟨x, x1, x2, by unfold up; rw [if_neg (by omega)]; exact x3⟩) h
            refine ⟨a1, fun j hj => ?_⟩
            rw [a2 j hj]
            unfold up
            rw [if_neg (by omega)]
          · cases h
        · cases h
theorem wdf_cg {g1 g2 : Nat → Int32} {cl : Nat} (h : ∀ j, j < 4 * cl → g1 j = g2 j) : ∀ j, j < 4 * (cl + 1) → wdf g1 (4 * cl) j = wdf g2 (4 * cl) j := fun j hj => by
  unfold wdf up
  split
  · rfl
  · split
    · rfl
    · split
      · rfl
      · split
        · rfl
        · exact h j (by omega)
theorem wdf_b (g : Nat → Int32) (b : Nat) : Bnd wlo whi 4 b (wdf g b) := fun i hi => by
  unfold wdf up
  rcases (show i = 0 ∨ i = 1 ∨ i = 2 ∨ i = 3 by omega) with rfl | rfl | rfl | rfl
  · exact ⟨0, by decide, by decide, by rw [if_neg (by omega), if_neg (by omega), if_neg (by omega), if_pos (by omega)]; rfl⟩
  · exact ⟨1, by decide, by decide, by rw [if_neg (by omega), if_neg (by omega), if_pos (by omega)]; rfl⟩
  · exact ⟨0, by decide, by decide, by rw [if_neg (by omega), if_pos (by omega)]; rfl⟩
  · exact ⟨1, by decide, by decide, by rw [if_pos (by omega)]; rfl⟩
theorem wdf_o {g : Nat → Int32} {b j : Nat} (h : j < b) : wdf g b j = g j := by
  unfold wdf up
  rw [if_neg (by omega), if_neg (by omega), if_neg (by omega), if_neg (by omega)]
/-- both rows of what was read: alike, within their bounds -/
def RdR (a b : (Nat → Int32) × (Nat → Int32) × Nat) : Prop := a.2.2 = b.2.2 ∧ a.2.2 ≤ 8 ∧ (∀ j, j < 5 → a.1 j = b.1 j) ∧ (∀ j, j < 4 * a.2.2 → a.2.1 j = b.2.1 j) ∧ Bnd rlo rhi 5 0 a.1 ∧ ∀ c, c < a.2.2 → Bnd wlo whi 4 (4 * c) a.2.1
def EqR (q1 q2 : Except Nat ((Nat → Int32) × (Nat → Int32) × Nat)) : Prop := match q1, q2 with
  | .error p, .error p' => p = p'
  | .ok a, .ok b => RdR a b
  | _, _ => False
theorem rwP_cg {T : List Nat} : ∀ (k : Nat) (ru : Bool) (cl : Nat) (gr1 gr2 gw1 gw2 : Nat → Int32) (r : List Nat), RdR (gr1, gw1, cl) (gr2, gw2, cl) → EqR (rwP T k ru cl gr1 gw1 r) (rwP T k ru cl gr2 gw2 r)
  | 0, ru, cl, gr1, gr2, gw1, gw2, r, h => rfl
  | k + 1, ru, cl, gr1, gr2, gw1, gw2, r, h => by
    obtain ⟨-, h2, h3, h4, h5, h6⟩ := h
    have h2 : cl ≤ 8 := h2
    have h3 : ∀ j, j < 5 → gr1 j = gr2 j := h3
    have h4 : ∀ j, j < 4 * cl → gw1 j = gw2 j := h4
    have h5 : Bnd rlo rhi 5 0 gr1 := h5
    have h6 : ∀ c, c < cl → Bnd wlo whi 4 (4 * c) gw1 := h6
    have e : ∀ gr gw, rwP T (k + 1) ru cl gr gw r = (match sk r with
      | [] => .error (po T [])
      | x :: r2 =>
        if x = 115 ∧ ru = false then
          (match itP T rls rlo rhi 0 6 0 gr r2 with
          | .error p => .error p
          | .ok q => match q.2 with
            | [] => .ok (q.1, gw, cl)
            | y :: r4 => if y = 59 then rwP T k true cl q.1 gw r4 else .error (po T (y :: r4)))
        else if x = 113 ∧ cl < 8 then
          (match itP T wls wlo whi (4 * cl) 5 0 (wdf gw (4 * cl)) r2 with
          | .error p => .error p
          | .ok q => match q.2 with
            | [] => .ok (gr, q.1, cl + 1)
            | y :: r4 => if y = 59 then rwP T k ru (cl + 1) gr q.1 r4 else .error (po T (y :: r4)))
        else .error (po T (x :: r2))) := fun gr gw => rfl
    rw [e, e]
    cases sk r with
    | nil => exact rfl
    | cons x r2 =>
      simp only
      by_cases q1 : x = 115 ∧ ru = false
      · rw [if_pos q1, if_pos q1]
        have hi := itP_cg (T := T) (ls := rls) (lo := rlo) (hi := rhi) (b := 0) (n := 5) 6 0 gr1 gr2 r2 h3
        cases o1 : itP T rls rlo rhi 0 6 0 gr1 r2 with
        | error p1 =>
          cases o2 : itP T rls rlo rhi 0 6 0 gr2 r2 with
          | error p2 => rw [o1, o2] at hi; exact hi
          | ok q2 => rw [o1, o2] at hi; exact hi.elim
        | ok q1 =>
          cases o2 : itP T rls rlo rhi 0 6 0 gr2 r2 with
          | error p2 => rw [o1, o2] at hi; exact hi.elim
          | ok q2 =>
            rw [o1, o2] at hi
            obtain ⟨ga, ra⟩ := q1
            obtain ⟨gb, rb⟩ := q2
            obtain ⟨i1, i2⟩ := hi
            have i1 : ra = rb := i1
            subst i1
            obtain ⟨b1, -⟩ := itP_b 6 0 gr1 r2 (ga, ra) h5 o1
            have hn : RdR (ga, gw1, cl) (gb, gw2, cl) := ⟨rfl, h2, i2, h4, b1, h6⟩
            cases ra with
            | nil => exact hn
            | cons y r4 =>
              show EqR (if y = 59 then rwP T k true cl ga gw1 r4 else .error (po T (y :: r4))) (if y = 59 then rwP T k true cl gb gw2 r4 else .error (po T (y :: r4)))
              by_cases qy : y = 59
              · rw [if_pos qy, if_pos qy]
                exact rwP_cg k true cl ga gb gw1 gw2 r4 hn
              · rw [if_neg qy, if_neg qy]
                exact rfl
      · rw [if_neg q1, if_neg q1]
        by_cases q2 : x = 113 ∧ cl < 8
        · rw [if_pos q2, if_pos q2]
          have hi := itP_cg (T := T) (ls := wls) (lo := wlo) (hi := whi) (b := 4 * cl) (n := 4 * (cl + 1)) 5 0 _ _ r2 (wdf_cg h4)
          cases o1 : itP T wls wlo whi (4 * cl) 5 0 (wdf gw1 (4 * cl)) r2 with
          | error p1 =>
            cases o2 : itP T wls wlo whi (4 * cl) 5 0 (wdf gw2 (4 * cl)) r2 with
            | error p2 => rw [o1, o2] at hi; exact hi
            | ok q2 => rw [o1, o2] at hi; exact hi.elim
          | ok q1 =>
            cases o2 : itP T wls wlo whi (4 * cl) 5 0 (wdf gw2 (4 * cl)) r2 with
            | error p2 => rw [o1, o2] at hi; exact hi.elim
            | ok q2' =>
              rw [o1, o2] at hi
              obtain ⟨ga, ra⟩ := q1
              obtain ⟨gb, rb⟩ := q2'
              obtain ⟨i1, i2⟩ := hi
              have i1 : ra = rb := i1
              subst i1
              obtain ⟨b1, b2⟩ := itP_b 5 0 (wdf gw1 (4 * cl)) r2 (ga, ra) (wdf_b gw1 (4 * cl)) o1
              have hn : RdR (gr1, ga, cl + 1) (gr2, gb, cl + 1) := ⟨rfl, by show cl + 1 ≤ 8; omega, h3, i2, h5, fun c hc => by
                by_cases ec : c = cl
                · subst ec
                  exact b1
                · have hc : c < cl := by have : c < cl + 1 := hc; omega
                  intro i hi
                  obtain ⟨z, z1, z2, z3⟩ := h6 c hc i hi
                  refine ⟨z, z1, z2, ?_⟩
                  have := b2 (4 * c + i) (Or.inl (by omega))
                  show ga (4 * c + i) = nI z
                  rw [show ga (4 * c + i) = wdf gw1 (4 * cl) (4 * c + i) from this, wdf_o (by omega)]
                  exact z3⟩
              cases ra with
              | nil => exact hn
              | cons y r4 =>
                show EqR (if y = 59 then rwP T k ru (cl + 1) gr1 ga r4 else .error (po T (y :: r4))) (if y = 59 then rwP T k ru (cl + 1) gr2 gb r4 else .error (po T (y :: r4)))
                by_cases qy : y = 59
                · rw [if_pos qy, if_pos qy]
                  exact rwP_cg k ru (cl + 1) gr1 gr2 ga gb r4 hn
                · rw [if_neg qy, if_neg qy]
                  exact rfl
        · rw [if_neg q2, if_neg q2]
          exact rfl
theorem rdf_b (g : Nat → Int32) : Bnd rlo rhi 5 0 (rdf g) := fun i hi => by
  unfold rdf up
  rcases (show i = 0 ∨ i = 1 ∨ i = 2 ∨ i = 3 ∨ i = 4 by omega) with rfl | rfl | rfl | rfl | rfl
  · exact ⟨4, by decide, by decide, rfl⟩
  · exact ⟨0, by decide, by decide, rfl⟩
  · exact ⟨0, by decide, by decide, rfl⟩
  · exact ⟨1, by decide, by decide, rfl⟩
  · exact ⟨0, by decide, by decide, rfl⟩
theorem rdf_cg (g1 g2 : Nat → Int32) : ∀ j, j < 5 → rdf g1 j = rdf g2 j := fun j hj => by
  unfold rdf up
  rcases (show j = 0 ∨ j = 1 ∨ j = 2 ∨ j = 3 ∨ j = 4 by omega) with rfl | rfl | rfl | rfl | rfl <;> rfl
theorem rw_two (T : List Nat) (k : Nat) (g1 g2 h1 h2 : Nat → Int32) : EqR (rwP T k false 0 (rdf g1) h1 T) (rwP T k false 0 (rdf g2) h2 T) := rwP_cg k false 0 _ _ _ _ T ⟨rfl, Nat.zero_le _, rdf_cg g1 g2, fun j hj => absurd hj (by show ¬ j < 4 * 0; omega), rdf_b g1, fun c hc => absurd hc (Nat.not_lt_zero c)⟩
