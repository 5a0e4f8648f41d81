/-! READING the tape: what is left of it -/
def sk : List Nat → List Nat
  | [] => []
  | c :: r => if c = 32 then sk r else c :: r
def isD : List Nat → Bool
  | [] => false
  | c :: _ => decide (48 ≤ c ∧ c ≤ 57)
def rdD : Nat → Nat → List Nat → Nat × List Nat
  | 0, v, r => (v, r)
  | _ + 1, v, [] => (v, [])
  | f + 1, v, c :: r => if 48 ≤ c ∧ c ≤ 57 then rdD f (10 * v + (c - 48)) r else (v, c :: r)
def hd0 : List Nat → Int32
  | [] => 0
  | c :: _ => nI c
def hdm : List Nat → Int32
  | [] => -1
  | c :: _ => nI c
/-- what is left of T -/
def Sx (T r : List Nat) : Prop := ∃ pre, T = pre ++ r
def po (T r : List Nat) : Nat := T.length - r.length
theorem Sx.rf (T : List Nat) : Sx T T := ⟨[], rfl⟩
theorem Sx.tl {T r : List Nat} {c : Nat} (h : Sx T (c :: r)) : Sx T r := by
  obtain ⟨pre, e⟩ := h
  exact ⟨pre ++ [c], by rw [e, List.append_assoc]; rfl⟩
theorem Sx.le {T r : List Nat} (h : Sx T r) : r.length ≤ T.length := by
  obtain ⟨pre, e⟩ := h
  rw [e, List.length_append]
  omega
theorem Sx.po1 {T r : List Nat} {c : Nat} (h : Sx T (c :: r)) : po T (c :: r) + 1 = po T r := by
  have := h.le
  unfold po
  rw [List.length_cons] at this ⊢
  omega
theorem Sx.get {T r : List Nat} {c : Nat} (h : Sx T (c :: r)) : T[po T (c :: r)]? = some c := by
  obtain ⟨pre, e⟩ := h
  have : po T (c :: r) = pre.length := by
    unfold po
    rw [e, List.length_append]
    omega
  rw [this, e, List.getElem?_append_right (Nat.le_refl _), Nat.sub_self]
  rfl
theorem Sx.skp {T : List Nat} : ∀ {r : List Nat}, Sx T r → Sx T (sk r)
  | [], h => h
  | c :: r, h => by
    show Sx T (if c = 32 then sk r else c :: r)
    split
    · exact Sx.skp h.tl
    · exact h
theorem Sx.rd {T : List Nat} : ∀ {f v : Nat} {r : List Nat}, Sx T r → Sx T (rdD f v r).2
  | 0, _, _, h => h
  | _ + 1, _, [], h => h
  | f + 1, v, c :: r, h => by
    show Sx T (if 48 ≤ c ∧ c ≤ 57 then rdD f (10 * v + (c - 48)) r else (v, c :: r)).2
    split
    · exact Sx.rd h.tl
    · exact h
theorem sk_32 : ∀ (r : List Nat) {c : Nat} {r' : List Nat}, sk r = c :: r' → ¬ c = 32
  | [], _, _, h => by cases h
  | x :: r, c, r', h => by
    have h : (if x = 32 then sk r else x :: r) = c :: r' := h
    split at h
    · exact sk_32 r h
    · cases h
      assumption
theorem sk_sk (r : List Nat) : sk (sk r) = sk r := by
  cases h : sk r with
  | nil => rfl
  | cons c r' => exact if_neg (sk_32 r h)
theorem isD_c {c : Nat} {r : List Nat} : isD (c :: r) = true ↔ 48 ≤ c ∧ c ≤ 57 := by
  show decide (48 ≤ c ∧ c ≤ 57) = true ↔ _
  exact decide_eq_true_iff
theorem sk_D {r : List Nat} (h : isD r = true) : sk r = r := by
  cases r with
  | nil => rfl
  | cons c r' => exact if_neg (by have := isD_c.mp h; omega)
theorem rd_n {f v : Nat} {r : List Nat} (h : isD r = false) : rdD f v r = (v, r) := by
  cases f with
  | zero => rfl
  | succ f =>
    cases r with
    | nil => rfl
    | cons c r' => exact if_neg (fun z => by rw [isD_c.mpr z] at h; cases h)
theorem rd_s {f v c : Nat} {r : List Nat} (h : isD (c :: r) = true) : rdD (f + 1) v (c :: r) = rdD f (10 * v + (c - 48)) r := if_pos (isD_c.mp h)
/-- a number of at most m digits: its value, what is left behind it -/
def nv (m : Nat) (r : List Nat) : Nat := (rdD m 0 (sk r)).1
def nr (m : Nat) (r : List Nat) : List Nat := (rdD m 0 (sk r)).2
/-- it can be read -/
def nok (m : Nat) (r : List Nat) : Bool := isD (sk r) && !isD (nr m r)
theorem rd_le {b : Nat} : ∀ (f v : Nat) (r : List Nat), v < b → (rdD f v r).1 < b * 10 ^ f
  | 0, v, r, h => by show v < b * 1; omega
  | f + 1, v, [], h => by
    show v < b * 10 ^ (f + 1)
    have : 1 ≤ 10 ^ (f + 1) := Nat.one_le_pow _ _ (by decide)
    exact Nat.lt_of_lt_of_le h (Nat.le_mul_of_pos_right b this)
  | f + 1, v, c :: r, h => by
    show (if 48 ≤ c ∧ c ≤ 57 then rdD f (10 * v + (c - 48)) r else (v, c :: r)).1 < _
    split
    · have := rd_le (b := b * 10) f (10 * v + (c - 48)) r (by omega)
      rw [Nat.pow_succ, Nat.mul_comm (10 ^ f) 10, ← Nat.mul_assoc]
      exact this
    · have : 1 ≤ 10 ^ (f + 1) := Nat.one_le_pow _ _ (by decide)
      exact Nat.lt_of_lt_of_le h (Nat.le_mul_of_pos_right b this)
theorem nv_le (m : Nat) (r : List Nat) : nv m r < 10 ^ m := by
  have := rd_le (b := 1) m 0 (sk r) (by decide)
  rw [Nat.one_mul] at this
  exact this
/-! the class's tape while it is read: at, number, clauses -/
def CTp (M : aM) (T : List Nat) : Prop := M.1 33 4 = nI T.length ∧ T.length ≤ 240 ∧ ∀ i c, T[i]? = some c → M.2.1 34 i = nI c ∧ 0 < c ∧ c < 256
def RTp (W : aM) (T : List Nat) : Prop := W.1 0 2 = nI T.length ∧ T.length ≤ 240 ∧ ∀ i c, T[i]? = some c → W.2.1 1 i = vp_nar .byte (nI c) ∧ 0 < c ∧ c < 256
def pS (M : aM) (p : Nat) (v : Int32) (c : Nat) : aM := mI (mI (mI M 33 5 (nI p)) 33 6 v) 33 7 (nI c)
theorem pS_4 (M : aM) (p : Nat) (v : Int32) (c : Nat) : (pS M p v c).1 33 4 = M.1 33 4 := by
  unfold pS
  rw [mI_At, if_neg (by decide), mI_At, if_neg (by decide), mI_At, if_neg (by decide)]
theorem pS_5 (M : aM) (p : Nat) (v : Int32) (c : Nat) : (pS M p v c).1 33 5 = nI p := by
  unfold pS
  rw [mI_At, if_neg (by decide), mI_At, if_neg (by decide), mI_At, if_pos rfl]
theorem pS_6 (M : aM) (p : Nat) (v : Int32) (c : Nat) : (pS M p v c).1 33 6 = v := by
  unfold pS
  rw [mI_At, if_neg (by decide), mI_At, if_pos rfl]
theorem pS_7 (M : aM) (p : Nat) (v : Int32) (c : Nat) : (pS M p v c).1 33 7 = nI c := by
  unfold pS
  rw [mI_At, if_pos rfl]
theorem pS_A (M : aM) (p : Nat) (v : Int32) (c : Nat) : (pS M p v c).2.1 = M.2.1 := rfl
theorem mI_cm {M : aM} {a j k : Nat} {u v : Int32} (h : ¬ j = k) : mI (mI M a j u) a k v = mI (mI M a k v) a j u := by
  have e : up2 (up2 M.1 a j u) a k v = up2 (up2 M.1 a k v) a j u := by
    funext b i
    simp only [up2]
    by_cases q : b = a
    · by_cases q2 : i = k
      · subst q q2
        rw [if_pos ⟨rfl, rfl⟩, if_neg (fun z => h z.2.symm), if_pos ⟨rfl, rfl⟩]
      · rw [if_neg (fun z => q2 z.2)]
        by_cases q3 : i = j
        · rw [if_pos ⟨q, q3⟩, if_pos ⟨q, q3⟩]
        · rw [if_neg (fun z => q3 z.2), if_neg (fun z => q3 z.2), if_neg (fun z => q2 z.2)]
    · rw [if_neg (fun z => q z.1), if_neg (fun z => q z.1), if_neg (fun z => q z.1), if_neg (fun z => q z.1)]
  show (up2 (up2 M.1 a j u) a k v, _, _) = (up2 (up2 M.1 a k v) a j u, _, _)
  rw [e]
  rfl
theorem pS_w5 (M : aM) (p q : Nat) (v : Int32) (c : Nat) : mI (pS M p v c) 33 5 (nI q) = pS M q v c := by
  unfold pS
  rw [mI_cm (j := 7) (k := 5) (by decide), mI_cm (j := 6) (k := 5) (by decide), mI_mI]
theorem pS_w6 (M : aM) (p : Nat) (v u : Int32) (c : Nat) : mI (pS M p v c) 33 6 u = pS M p u c := by
  unfold pS
  rw [mI_cm (j := 7) (k := 6) (by decide), mI_mI]
theorem pS_w7 (M : aM) (p : Nat) (v : Int32) (c e : Nat) : mI (pS M p v c) 33 7 (nI e) = pS M p v e := by
  unfold pS
  rw [mI_mI]
/-! the reference's: at, fault, toldsRead -/
def qS (W : aM) (p : Nat) (f : Int32) (t : Nat) : aM := mI (mI (mI W 0 3 (nI p)) 0 4 f) 0 11 (nI t)
theorem qS_2 (W : aM) (p : Nat) (f : Int32) (t : Nat) : (qS W p f t).1 0 2 = W.1 0 2 := by
  unfold qS
  rw [mI_At, if_neg (by decide), mI_At, if_neg (by decide), mI_At, if_neg (by decide)]
theorem qS_3 (W : aM) (p : Nat) (f : Int32) (t : Nat) : (qS W p f t).1 0 3 = nI p := by
  unfold qS
  rw [mI_At, if_neg (by decide), mI_At, if_neg (by decide), mI_At, if_pos rfl]
theorem qS_4 (W : aM) (p : Nat) (f : Int32) (t : Nat) : (qS W p f t).1 0 4 = f := by
  unfold qS
  rw [mI_At, if_neg (by decide), mI_At, if_pos rfl]
theorem qS_11 (W : aM) (p : Nat) (f : Int32) (t : Nat) : (qS W p f t).1 0 11 = nI t := by
  unfold qS
  rw [mI_At, if_pos rfl]
theorem qS_A (W : aM) (p : Nat) (f : Int32) (t : Nat) : (qS W p f t).2.1 = W.2.1 := rfl
theorem qS_w3 (W : aM) (p q : Nat) (f : Int32) (t : Nat) : mI (qS W p f t) 0 3 (nI q) = qS W q f t := by
  unfold qS
  rw [mI_cm (j := 11) (k := 3) (by decide), mI_cm (j := 4) (k := 3) (by decide), mI_mI]
theorem qS_w4 (W : aM) (p : Nat) (f u : Int32) (t : Nat) : mI (qS W p f t) 0 4 u = qS W p u t := by
  unfold qS
  rw [mI_cm (j := 11) (k := 4) (by decide), mI_mI]
theorem qS_w11 (W : aM) (p : Nat) (f : Int32) (t u : Nat) : mI (qS W p f t) 0 11 (nI u) = qS W p f u := by
  unfold qS
  rw [mI_mI]
