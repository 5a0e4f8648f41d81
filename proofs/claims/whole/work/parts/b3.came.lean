/-! FIRST COME: what came when, apart from both programs -/
/-- what l holds: of each kind the greatest number that came -/
def Kp (l : Nat → Int32) (pr : List (Nat → Int32)) : Prop := ∀ k, k < 6 → (∀ y, y ∈ pr → kd y = some k → y 0 ≤ l k) ∧ (l k = 0 ∨ ∃ y, y ∈ pr ∧ kd y = some k ∧ y 0 = l k)
theorem Kp_mx {l : Nat → Int32} {pr : List (Nat → Int32)} {z : Nat → Int32} (h : Kp l pr) : Kp (mxI z l) (z :: pr) := by
  intro k hk
  obtain ⟨h1, h2⟩ := h k hk
  unfold mxI
  cases hz : kd z with
  | none =>
    simp only
    refine ⟨fun y hy e => ?_, ?_⟩
    · rcases List.mem_cons.mp hy with q | q
      · rw [q, hz] at e; cases e
      · exact h1 y q e
    · rcases h2 with q | ⟨y, q1, q2, q3⟩
      · exact Or.inl q
      · exact Or.inr ⟨y, List.mem_cons_of_mem _ q1, q2, q3⟩
  | some k' =>
    simp only
    by_cases e : k = k'
    · subst e
      rw [up_s]
      by_cases c : l k < z 0
      · rw [if_pos c]
        refine ⟨fun y hy e => ?_, Or.inr ⟨z, List.mem_cons_self .., hz, rfl⟩⟩
        rcases List.mem_cons.mp hy with q | q
        · rw [q]; exact Int32.le_refl _
        · exact Int32.le_trans (h1 y q e) (Int32.le_of_lt c)
      · rw [if_neg c]
        refine ⟨fun y hy e => ?_, ?_⟩
        · rcases List.mem_cons.mp hy with q | q
          · rw [q]; exact Int32.not_lt.mp c
          · exact h1 y q e
        · rcases h2 with q | ⟨y, q1, q2, q3⟩
          · exact Or.inl q
          · exact Or.inr ⟨y, List.mem_cons_of_mem _ q1, q2, q3⟩
    · rw [up_o e]
      refine ⟨fun y hy e' => ?_, ?_⟩
      · rcases List.mem_cons.mp hy with q | q
        · rw [q, hz] at e'; cases e'; exact absurd rfl e
        · exact h1 y q e'
      · rcases h2 with q | ⟨y, q1, q2, q3⟩
        · exact Or.inl q
        · exact Or.inr ⟨y, List.mem_cons_of_mem _ q1, q2, q3⟩
theorem Kp_fold {l : Nat → Int32} {pr : List (Nat → Int32)} (h : Kp l pr) : ∀ nw : List (Nat → Int32), Kp (nw.foldr mxI l) (nw ++ pr)
  | [] => h
  | z :: r => Kp_mx (Kp_fold h r)
/-- z comes behind y though it is the earlier number of the kind -/
def Lz (z y : Nat → Int32) : Prop := ∃ k, kd z = some k ∧ kd y = some k ∧ z 0 < y 0
def Lts : List (Nat → Int32) → List (List (Nat → Int32)) → Prop
  | _, [] => False
  | pr, nw :: r => (∃ z y, z ∈ nw ∧ y ∈ pr ∧ Lz z y) ∨ Lts (nw ++ pr) r
theorem late_iff {l : Nat → Int32} {pr : List (Nat → Int32)} {z : Nat → Int32} (h : Kp l pr) (h0 : ∀ k, kd z = some k → 0 ≤ z 0) : lateI l z = true ↔ ∃ y, y ∈ pr ∧ Lz z y := by
  unfold lateI Lz
  cases hz : kd z with
  | none =>
    constructor
    · intro q; cases q
    · rintro ⟨y, -, k, q, -⟩; cases q
  | some k =>
    obtain ⟨h1, h2⟩ := h k (kd_lt hz)
    simp only [decide_eq_true_eq]
    constructor
    · intro q
      rcases h2 with c | ⟨y, q1, q2, q3⟩
      · rw [c] at q
        exact absurd q (Int32.not_lt.mpr (h0 k hz))
      · exact ⟨y, q1, k, rfl, q2, by rw [q3]; exact q⟩
    · rintro ⟨y, q1, k', q2, q3, q4⟩
      cases q2
      exact Int32.lt_of_lt_of_le q4 (h1 y q1 q3)
theorem cR_iff : ∀ (nws : List (List (Nat → Int32))) (l : Nat → Int32) (pr : List (Nat → Int32)), Kp l pr → (∀ z k, z ∈ nws.flatten → kd z = some k → 0 ≤ z 0) → (cR l nws = false ↔ Lts pr nws)
  | [], l, pr, _, _ => ⟨fun q => (by cases q), fun q => q.elim⟩
  | nw :: r, l, pr, h, h0 => by
    have ih := cR_iff r (nw.foldr mxI l) (nw ++ pr) (Kp_fold h nw) (fun z k hz => h0 z k (by rw [List.flatten_cons]; exact List.mem_append.mpr (Or.inr hz)))
    have a : nw.any (lateI l) = true ↔ ∃ z y, z ∈ nw ∧ y ∈ pr ∧ Lz z y := by
      rw [List.any_eq_true]
      constructor
      · rintro ⟨z, hz, q⟩
        obtain ⟨y, q1, q2⟩ := (late_iff h (fun k => h0 z k (by rw [List.flatten_cons]; exact List.mem_append.mpr (Or.inl hz)))).mp q
        exact ⟨z, y, hz, q1, q2⟩
      · rintro ⟨z, y, hz, q1, q2⟩
        exact ⟨z, hz, (late_iff h (fun k => h0 z k (by rw [List.flatten_cons]; exact List.mem_append.mpr (Or.inl hz)))).mpr ⟨y, q1, q2⟩⟩
    show (!(nw.any (lateI l)) && cR (nw.foldr mxI l) r) = false ↔ (_ ∨ _)
    rw [← a, ← ih]
    cases nw.any (lateI l) <;> simp
/-- the tick in which a number came first -/
def ixN (N : Int32) : List (List (Nat → Int32)) → Option Nat
  | [] => none
  | nw :: r => if nw.any (fun y => y 0 == N) then some 0 else (ixN N r).map (· + 1)
def at1 (nws : List (List (Nat → Int32))) (i : Nat) (y : Nat → Int32) : Prop := ∃ nw, nws[i]? = some nw ∧ y ∈ nw
theorem ixN_some {N : Int32} : ∀ {nws : List (List (Nat → Int32))} {i : Nat}, ixN N nws = some i → ∃ y, at1 nws i y ∧ y 0 = N
  | [], _, h => by cases h
  | nw :: r, i, h => by
    unfold ixN at h
    split at h
    · rename_i q
      cases h
      obtain ⟨y, q1, q2⟩ := List.any_eq_true.mp q
      exact ⟨y, ⟨nw, rfl, q1⟩, by simpa using q2⟩
    · cases hr : ixN N r with
      | none => rw [hr] at h; cases h
      | some j =>
        rw [hr] at h
        cases h
        obtain ⟨y, ⟨nw', q1, q2⟩, q3⟩ := ixN_some hr
        exact ⟨y, ⟨nw', by rw [List.getElem?_cons_succ]; exact q1, q2⟩, q3⟩
theorem at1_mem {nws : List (List (Nat → Int32))} {i : Nat} {y : Nat → Int32} (h : at1 nws i y) : y ∈ nws.flatten := by
  obtain ⟨nw, h1, h2⟩ := h
  exact List.mem_flatten.mpr ⟨nw, List.mem_of_getElem? h1, h2⟩
theorem ixN_of {N : Int32} : ∀ {nws : List (List (Nat → Int32))} {i : Nat} {y : Nat → Int32}, at1 nws i y → y 0 = N → nws.flatten.countP (fun x => decide (x 0 = N)) ≤ 1 → ixN N nws = some i
  | [], i, y, ⟨nw, h, _⟩, _, _ => by cases h
  | nw :: r, 0, y, ⟨nw', h1, h2⟩, e, hc => by
    cases h1
    unfold ixN
    rw [if_pos (List.any_eq_true.mpr ⟨y, h2, by simp [e]⟩)]
  | nw :: r, i + 1, y, ⟨nw', h1, h2⟩, e, hc => by
    rw [List.getElem?_cons_succ] at h1
    rw [List.flatten_cons, List.countP_append] at hc
    have c1 : 1 ≤ r.flatten.countP (fun x => decide (x 0 = N)) := List.countP_pos_iff.mpr ⟨y, at1_mem ⟨nw', h1, h2⟩, by simp [e]⟩
    have c0 : ¬ nw.any (fun y => y 0 == N) = true := by
      intro q
      obtain ⟨z, q1, q2⟩ := List.any_eq_true.mp q
      have : 1 ≤ nw.countP (fun x => decide (x 0 = N)) := List.countP_pos_iff.mpr ⟨z, q1, by simpa using q2⟩
      omega
    unfold ixN
    rw [if_neg c0, ixN_of ⟨nw', h1, h2⟩ e (by omega)]
    rfl
theorem plc_ix {x : Int32} : ∀ (nws : List (List (Nat → Int32))) (a i0 : Nat), match ixN x nws with
    | some i => ∃ p, plc x i0 (lnd (nI a) nws) = some (p, nI (a + i + 1))
    | none => plc x i0 (lnd (nI a) nws) = none
  | [], a, i0 => rfl
  | nw :: r, a, i0 => by
    have key : ∀ (nw : List (Nat → Int32)) (i0 : Nat), match (if nw.any (fun y => y 0 == x) then some 0 else (ixN x r).map (· + 1)) with
      | some i => ∃ p, plc x i0 (nw.map (fun y => (y 0, nI a + 1)) ++ lnd (nI a + 1) r) = some (p, nI (a + i + 1))
      | none => plc x i0 (nw.map (fun y => (y 0, nI a + 1)) ++ lnd (nI a + 1) r) = none := by
      intro nw
      induction nw with
      | nil =>
        intro i0
        have := plc_ix (x := x) r (a + 1) i0
        rw [← nI_1] at this
        rw [List.any_nil, if_neg (by decide), List.map_nil, List.nil_append]
        cases hr : ixN x r with
        | none => rw [hr] at this; exact this
        | some i =>
          rw [hr] at this
          obtain ⟨p, q⟩ := this
          refine ⟨p, ?_⟩
          rw [q]
          show some (p, nI (a + 1 + i + 1)) = some (p, nI (a + (i + 1) + 1))
          rw [show a + 1 + i + 1 = a + (i + 1) + 1 by omega]
      | cons u s ih =>
        intro i0
        rw [List.map_cons, List.cons_append, List.any_cons]
        by_cases q : u 0 = x
        · have e : (u 0 == x || s.any (fun y => y 0 == x)) = true := by simp [q]
          rw [e, if_pos rfl]
          refine ⟨i0, ?_⟩
          unfold plc
          rw [if_pos q, nI_1]
        · have e : (u 0 == x || s.any (fun y => y 0 == x)) = s.any (fun y => y 0 == x) := by simp [q]
          rw [e]
          have := ih (i0 + 1)
          have e2 : plc x i0 ((u 0, nI a + 1) :: (s.map (fun y => (y 0, nI a + 1)) ++ lnd (nI a + 1) r)) = plc x (i0 + 1) (s.map (fun y => (y 0, nI a + 1)) ++ lnd (nI a + 1) r) := by
            conv => lhs; unfold plc
            rw [if_neg q]
          rw [e2]
          exact this
    exact key nw i0
theorem Lts_iff : ∀ (nws : List (List (Nat → Int32))) (pr : List (Nat → Int32)), Lts pr nws ↔ ∃ j z y, at1 nws j z ∧ Lz z y ∧ (y ∈ pr ∨ ∃ i, i < j ∧ at1 nws i y)
  | [], pr => ⟨fun q => q.elim, fun ⟨j, z, y, ⟨nw, q, _⟩, _⟩ => by cases q⟩
  | nw :: r, pr => by
    have ih := Lts_iff r (nw ++ pr)
    constructor
    · rintro (⟨z, y, q1, q2, q3⟩ | q)
      · exact ⟨0, z, y, ⟨nw, rfl, q1⟩, q3, Or.inl q2⟩
      · obtain ⟨j, z, y, ⟨nw', a1, a2⟩, b, c⟩ := ih.mp q
        refine ⟨j + 1, z, y, ⟨nw', by rw [List.getElem?_cons_succ]; exact a1, a2⟩, b, ?_⟩
        rcases c with c | ⟨i, c1, nw2, c2, c3⟩
        · rcases List.mem_append.mp c with c | c
          · exact Or.inr ⟨0, by omega, nw, rfl, c⟩
          · exact Or.inl c
        · exact Or.inr ⟨i + 1, by omega, nw2, by rw [List.getElem?_cons_succ]; exact c2, c3⟩
    · rintro ⟨j, z, y, ⟨nw', a1, a2⟩, b, c⟩
      cases j with
      | zero =>
        cases a1
        rcases c with c | ⟨i, c1, -⟩
        · exact Or.inl ⟨z, y, a2, c, b⟩
        · omega
      | succ j =>
        rw [List.getElem?_cons_succ] at a1
        refine Or.inr (ih.mpr ⟨j, z, y, ⟨nw', a1, a2⟩, b, ?_⟩)
        rcases c with c | ⟨i, c1, nw2, c2, c3⟩
        · exact Or.inl (List.mem_append.mpr (Or.inr c))
        · cases i with
          | zero =>
            cases c2
            exact Or.inl (List.mem_append.mpr (Or.inl c3))
          | succ i =>
            rw [List.getElem?_cons_succ] at c2
            exact Or.inr ⟨i, by omega, nw2, c2, c3⟩
