/-! A SCRIPT as a text: the pure reader, the class -/
def qls : List Nat := [113, 116, 99, 104, 101, 119, 114]
def nuf (k : Nat) : Nat := [4, 1, 1, 1, 1, 2, 3].getD k 0
def mdg (kd : Nat) : Nat := if kd = 1 then 2 else 1
def cmP (r : List Nat) : Option (List Nat) := match sk r with
  | [] => none
  | x :: r2 => if x = 44 then some r2 else none
/-- what stands before the i-th number -/
def cmI (i : Nat) (r : List Nat) : Option (List Nat) := if 1 < i then cmP r else some r
def snP (T : List Nat) (kd nu : Nat) : Nat → Nat → List Nat → Except Nat (List Int32 × List Nat)
  | 0, _, r => .ok ([], r)
  | k + 1, i, r => if i ≤ nu then
      (match cmI i r with
      | none => .error (po T (sk r))
      | some r1 => if nok (mdg kd) r1 = true then
          (match snP T kd nu k (i + 1) (nr (mdg kd) r1) with
          | .error p => .error p
          | .ok q => .ok (nI (nv (mdg kd) r1) :: q.1, q.2))
        else .error (po T (nr (mdg kd) r1)))
    else (match snP T kd nu k (i + 1) r with
      | .error p => .error p
      | .ok q => .ok (-1 :: q.1, q.2))
def stP (T r : List Nat) : Except Nat (List Int32 × List Nat) := match ixr qls (sk r) with
  | none => .error (po T (sk r))
  | some kd => match snP T kd (nuf kd) 4 1 (sk r).tail with
    | .error p => .error p
    | .ok q => .ok (nI kd :: q.1, q.2)
def scP (T : List Nat) : Nat → Nat → List Nat → Except Nat (List Int32)
  | 0, _, r => .error (po T r)
  | k + 1, i, r => match stP T r with
    | .error p => .error p
    | .ok q => match sk q.2 with
      | [] => .ok q.1
      | y :: r2 => if y = 59 ∧ ¬ i + 1 = 16 then
          (match scP T k (i + 1) r2 with
          | .error p => .error p
          | .ok l => .ok (q.1 ++ l))
        else .error (po T (y :: r2))
def wr (g : Nat → Int32) : Nat → List Int32 → (Nat → Int32)
  | _, [] => g
  | b, v :: l => wr (up g b v) (b + 1) l
theorem wr_app : ∀ (l1 l2 : List Int32) (g : Nat → Int32) (b : Nat), wr g b (l1 ++ l2) = wr (wr g b l1) (b + l1.length) l2
  | [], _, _, _ => rfl
  | v :: l1, l2, g, b => by
    show wr (up g b v) (b + 1) (l1 ++ l2) = wr (wr (up g b v) (b + 1) l1) (b + (l1.length + 1)) l2
    rw [wr_app l1 l2, show b + 1 + l1.length = b + (l1.length + 1) by omega]
theorem cmP_suf {r r1 : List Nat} (h : cmP r = some r1) : Sx r r1 := by
  unfold cmP at h
  have h1 : Sx r (sk r) := (Sx.rf r).skp
  cases e : sk r with
  | nil => rw [e] at h; cases h
  | cons x r2 =>
    rw [e] at h h1
    simp only at h
    split at h
    · rw [← Option.some.inj h]; exact h1.tl
    · cases h
theorem cmI_suf {i : Nat} {r r1 : List Nat} (h : cmI i r = some r1) : Sx r r1 := by
  unfold cmI at h
  split at h
  · exact cmP_suf h
  · rw [← Option.some.inj h]; exact Sx.rf r
theorem snP_suf {T : List Nat} {kd nu : Nat} : ∀ (k i : Nat) (r : List Nat) (q : List Int32 × List Nat), snP T kd nu k i r = .ok q → Sx r q.2 ∧ q.1.length = k
  | 0, i, r, q, h => by
    have : (([] : List Int32), r) = q := Except.ok.inj h
    rw [← this]
    exact ⟨Sx.rf r, rfl⟩
  | k + 1, i, r, q, h => by
    rw [snP] at h
    split at h
    · cases hc : cmI i r with
      | none => rw [hc] at h; cases h
      | some r1 =>
        rw [hc] at h
        simp only at h
        split at h
        · cases ho : snP T kd nu k (i + 1) (nr (mdg kd) r1) with
          | error p => rw [ho] at h; cases h
          | ok o =>
            rw [ho] at h
            have e := Except.ok.inj h
            obtain ⟨a1, a2⟩ := snP_suf k (i + 1) _ o ho
            rw [← e]
            exact ⟨((cmI_suf hc).tr (Sx.rd (Sx.rf r1).skp)).tr a1, by show o.1.length + 1 = k + 1; rw [a2]⟩
        · cases h
    · cases ho : snP T kd nu k (i + 1) r with
      | error p => rw [ho] at h; cases h
      | ok o =>
        rw [ho] at h
        have e := Except.ok.inj h
        obtain ⟨a1, a2⟩ := snP_suf k (i + 1) _ o ho
        rw [← e]
        exact ⟨a1, by show o.1.length + 1 = k + 1; rw [a2]⟩
theorem stP_suf {T r : List Nat} {q : List Int32 × List Nat} (h : stP T r = .ok q) : Sx r q.2 ∧ q.1.length = 5 ∧ q.2.length < r.length ∧ ∃ kd l, kd < 7 ∧ q.1 = nI kd :: l := by
  unfold stP at h
  have h1 : Sx r (sk r) := (Sx.rf r).skp
  have hl := h1.le
  cases hx : ixr qls (sk r) with
  | none => rw [hx] at h; cases h
  | some kd =>
    rw [hx] at h
    simp only at h
    cases e : sk r with
    | nil => rw [e] at hx; cases hx
    | cons x r2 =>
      rw [e] at h h1 hl hx
      rw [List.length_cons] at hl
      cases ho : snP T kd (nuf kd) 4 1 (x :: r2).tail with
      | error p => rw [ho] at h; cases h
      | ok o =>
        rw [ho] at h
        have e2 := Except.ok.inj h
        obtain ⟨a1, a2⟩ := snP_suf 4 1 _ o ho
        have a3 := a1.le
        rw [← e2]
        exact ⟨h1.tl.tr a1, by show o.1.length + 1 = 5; rw [a2], by show o.2.length < r.length; show o.2.length < r.length; have : (x :: r2).tail.length = r2.length := rfl; omega, kd, o.1, ix_lt hx, rfl⟩
