/-! WITHDRAWN: which stay, which go -/
def wdF (s b g : Nat) : List Sg → List Sg → List Sg
  | _, [] => []
  | pre, x :: r => if x.2.1 = g ∧ pre.any (isL s b x.2.2.1) = true then wdF s b g (pre ++ [x]) r else x :: wdF s b g (pre ++ [x]) r
def wc (s b g : Nat) : List Sg → List Sg → Nat
  | _, [] => 0
  | pre, x :: r => (if x.2.1 = g ∧ pre.any (isL s b x.2.2.1) = true then 1 else 0) + wc s b g (pre ++ [x]) r
def wcv (s b g v : Nat) : List Sg → List Sg → Nat
  | _, [] => 0
  | pre, x :: r => (if isL s b v x = true ∧ x.2.1 = g ∧ pre.any (isL s b v) = true then 1 else 0) + wcv s b g v (pre ++ [x]) r
/-- of a line the first one stays, and those that go elsewhere -/
def tlK (g : Nat) : List Sg → List Sg
  | [] => []
  | y :: r => y :: r.filter (fun x => decide (¬ x.2.1 = g))
theorem any_app {s b v : Nat} (pre : List Sg) (x : Sg) : (pre ++ [x]).any (isL s b v) = (pre.any (isL s b v) || isL s b v x) := by simp
theorem wd_len {s b g : Nat} : ∀ (r pre : List Sg), (wdF s b g pre r).length + wc s b g pre r = r.length
  | [], _ => rfl
  | x :: r, pre => by
    have ih := wd_len (s := s) (b := b) (g := g) r (pre ++ [x])
    simp only [wdF, wc]
    split
    · rw [List.length_cons]; omega
    · rw [List.length_cons, List.length_cons]; omega
theorem wd_sub {s b g : Nat} : ∀ (r pre : List Sg) (y : Sg), y ∈ wdF s b g pre r → y ∈ r
  | [], _, y, h => h
  | x :: r, pre, y, h => by
    simp only [wdF] at h
    split at h
    · exact List.mem_cons_of_mem _ (wd_sub r _ y h)
    · rcases List.mem_cons.mp h with q | q
      · rw [q]; exact List.mem_cons_self ..
      · exact List.mem_cons_of_mem _ (wd_sub r _ y q)
theorem wd_line {s b g v : Nat} : ∀ (r pre : List Sg), (wdF s b g pre r).filter (isL s b v) = if pre.any (isL s b v) = true then (r.filter (isL s b v)).filter (fun x => decide (¬ x.2.1 = g)) else tlK g (r.filter (isL s b v))
  | [], pre => by
    show [] = _
    split <;> rfl
  | x :: r, pre => by
    have ih := wd_line (s := s) (b := b) (g := g) (v := v) r (pre ++ [x])
    rw [any_app] at ih
    simp only [wdF]
    cases hx : isL s b v x with
    | true =>
      have hv : x.2.2.1 = v := (isL_iff.mp hx).2
      rw [hx, Bool.or_true, if_pos rfl] at ih
      rw [hv]
      by_cases hp : pre.any (isL s b v) = true
      · rw [if_pos hp]
        by_cases hg : x.2.1 = g
        · rw [if_pos ⟨hg, hp⟩, ih, List.filter_cons, if_pos hx, List.filter_cons, if_neg (by simp [hg])]
        · rw [if_neg (fun q => hg q.1), List.filter_cons, if_pos hx, ih, List.filter_cons, if_pos hx, List.filter_cons, if_pos (by simp [hg])]
      · rw [if_neg hp, if_neg (fun q => hp q.2), List.filter_cons, if_pos hx, ih, List.filter_cons, if_pos hx]
        rfl
    | false =>
      rw [hx, Bool.or_false] at ih
      have hf : (x :: r).filter (isL s b v) = r.filter (isL s b v) := by rw [List.filter_cons, if_neg (by rw [hx]; decide)]
      rw [hf]
      split
      · exact ih
      · rw [List.filter_cons, if_neg (by rw [hx]; decide)]
        exact ih
theorem wd_oth {s b g b' v : Nat} (hb : bs s g = b) (hne : ¬ b' = b) : ∀ (r pre : List Sg), (wdF s b g pre r).filter (isL s b' v) = r.filter (isL s b' v)
  | [], pre => rfl
  | x :: r, pre => by
    have ih := wd_oth (v := v) hb hne r (pre ++ [x])
    simp only [wdF]
    split
    · rename_i hq
      have hx : isL s b' v x = false := by
        cases hz : isL s b' v x with
        | false => rfl
        | true =>
          have := (isL_iff.mp hz).1
          rw [hq.1, hb] at this
          exact absurd this.symm hne
      rw [List.filter_cons, if_neg (by rw [hx]; decide)]
      exact ih
    · rw [List.filter_cons, List.filter_cons, ih]
theorem wc_sum {s b g : Nat} (hb : bs s g = b) : ∀ (r pre : List Sg), (∀ x, x ∈ r → x.2.2.1 < 3) → wc s b g pre r = wcv s b g 0 pre r + wcv s b g 1 pre r + wcv s b g 2 pre r
  | [], pre, _ => rfl
  | x :: r, pre, h => by
    have ih := wc_sum hb r (pre ++ [x]) (fun y hy => h y (List.mem_cons_of_mem _ hy))
    have hx3 := h x (List.mem_cons_self ..)
    simp only [wc, wcv]
    by_cases hg : x.2.1 = g
    · have hL : ∀ v, isL s b v x = decide (x.2.2.1 = v) := fun v => by
        unfold isL
        rw [hg, hb, decide_eq_true rfl, Bool.true_and]
      rcases (show x.2.2.1 = 0 ∨ x.2.2.1 = 1 ∨ x.2.2.1 = 2 by omega) with z | z | z
      · simp only [hL, z, hg, true_and, decide_true, Nat.reduceEqDiff, decide_false, Bool.false_eq_true, false_and, if_false]
        omega
      · simp only [hL, z, hg, true_and, decide_true, Nat.reduceEqDiff, decide_false, Bool.false_eq_true, false_and, if_false]
        omega
      · simp only [hL, z, hg, true_and, decide_true, Nat.reduceEqDiff, decide_false, Bool.false_eq_true, false_and, if_false]
        omega
    · simp only [hg, false_and, and_false, if_false]
      omega
theorem wcv_line {s b g v : Nat} : ∀ (r pre : List Sg), wcv s b g v pre r = if pre.any (isL s b v) = true then (r.filter (isL s b v)).countP (fun x => decide (x.2.1 = g)) else (r.filter (isL s b v)).tail.countP (fun x => decide (x.2.1 = g))
  | [], pre => by
    show 0 = _
    split <;> rfl
  | x :: r, pre => by
    have ih := wcv_line (s := s) (b := b) (g := g) (v := v) r (pre ++ [x])
    rw [any_app] at ih
    simp only [wcv]
    cases hx : isL s b v x with
    | true =>
      rw [hx, Bool.or_true, if_pos rfl] at ih
      rw [ih, List.filter_cons, if_pos hx]
      by_cases hp : pre.any (isL s b v) = true
      · rw [if_pos hp, List.countP_cons]
        by_cases hg : x.2.1 = g
        · rw [if_pos ⟨rfl, hg, hp⟩, if_pos (by simp [hg])]; omega
        · rw [if_neg (fun q => hg q.2.1), if_neg (by simp [hg])]; omega
      · rw [if_neg hp, if_neg (fun q => hp q.2.2), List.tail_cons]; omega
    | false =>
      rw [hx, Bool.or_false] at ih
      have hf : (x :: r).filter (isL s b v) = r.filter (isL s b v) := by rw [List.filter_cons, if_neg (by rw [hx]; decide)]
      have hz : ¬ (false = true ∧ x.2.1 = g ∧ pre.any (isL s b v) = true) := fun q => (by cases q.1)
      rw [hf, ih, if_neg hz, Nat.zero_add]
