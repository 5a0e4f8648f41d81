/-! SPREAD: putting in order -/
def insA (v : Int32) : Nat → (Nat → Int32) → (Nat → Int32)
  | 0, g => up g 0 v
  | p + 1, g => if g p ≤ v then up g (p + 1) v else insA v p (up g (p + 1) (g p))
def insL (v : Int32) : List Int32 → List Int32
  | [] => [v]
  | x :: l => if v < x then v :: x :: l else x :: insL v l
theorem insL_comm (u v : Int32) : ∀ l, insL u (insL v l) = insL v (insL u l)
  | [] => by
    show (if u < v then u :: v :: [] else v :: insL u []) = (if v < u then v :: u :: [] else u :: insL v [])
    by_cases c1 : u < v
    · rw [if_pos c1, if_neg (fun z => Int32.lt_asymm c1 z)]
      rfl
    · by_cases c2 : v < u
      · rw [if_neg c1, if_pos c2]
        rfl
      · have e : u = v := Int32.le_antisymm (Int32.not_lt.mp c2) (Int32.not_lt.mp c1)
        rw [e]
  | x :: l => by
    have ih := insL_comm u v l
    have d : ∀ (w : Int32) (y : Int32) (r : List Int32), insL w (y :: r) = if w < y then w :: y :: r else y :: insL w r := fun _ _ _ => rfl
    by_cases c1 : v < x <;> by_cases c2 : u < x
    · rw [d v x, d u x, if_pos c1, if_pos c2, d u v, d v u]
      by_cases c3 : u < v
      · rw [if_pos c3, if_neg (fun z => Int32.lt_asymm c3 z), d v x, if_pos c1]
      · by_cases c4 : v < u
        · rw [if_neg c3, if_pos c4, d u x, if_pos c2]
        · have e : u = v := Int32.le_antisymm (Int32.not_lt.mp c4) (Int32.not_lt.mp c3)
          rw [e]
    · have c3 : ¬ u < v := fun z => c2 (Int32.lt_trans z c1)
      rw [d v x, d u x, if_pos c1, if_neg c2, d u v, if_neg c3, d u x, if_neg c2, d v x, if_pos c1]
    · have c3 : ¬ v < u := fun z => c1 (Int32.lt_trans z c2)
      rw [d v x, d u x, if_neg c1, if_pos c2, d v u, if_neg c3, d u x, if_pos c2, d v x, if_neg c1]
    · rw [d v x, d u x, if_neg c1, if_neg c2, d u x, if_neg c2, d v x, if_neg c1, ih]
theorem insL_len (v : Int32) : ∀ l, (insL v l).length = l.length + 1
  | [] => rfl
  | x :: l => by
    show (if v < x then v :: x :: l else x :: insL v l).length = l.length + 1 + 1
    split
    · rfl
    · rw [List.length_cons, insL_len v l]
def srt (l : List Int32) : Prop := l.Pairwise (fun a b => a ≤ b)
theorem insL_mem (v : Int32) : ∀ l y, y ∈ insL v l → y = v ∨ y ∈ l
  | [], y, h => Or.inl (List.mem_singleton.mp h)
  | x :: l, y, h => by
    have h : y ∈ (if v < x then v :: x :: l else x :: insL v l) := h
    split at h
    · rcases List.mem_cons.mp h with h | h
      · exact Or.inl h
      · exact Or.inr h
    · rcases List.mem_cons.mp h with h | h
      · exact Or.inr (by rw [h]; exact List.mem_cons_self ..)
      · exact (insL_mem v l y h).imp id (List.mem_cons_of_mem _)
theorem insL_srt (v : Int32) : ∀ l, srt l → srt (insL v l)
  | [], _ => List.pairwise_singleton _ _
  | x :: l, h => by
    have hx := List.pairwise_cons.mp h
    show srt (if v < x then v :: x :: l else x :: insL v l)
    split
    · rename_i c
      refine List.pairwise_cons.mpr ⟨fun y hy => ?_, h⟩
      rcases List.mem_cons.mp hy with e | e
      · rw [e]; exact Int32.le_of_lt c
      · exact Int32.le_trans (Int32.le_of_lt c) (hx.1 y e)
    · rename_i c
      refine List.pairwise_cons.mpr ⟨fun y hy => ?_, insL_srt v l hx.2⟩
      rcases insL_mem v l y hy with e | e
      · rw [e]; exact Int32.not_lt.mp c
      · exact hx.1 y e
theorem insL_end (v : Int32) : ∀ l, (∀ x, x ∈ l → x ≤ v) → insL v l = l ++ [v]
  | [], _ => rfl
  | x :: l, h => by
    show (if v < x then v :: x :: l else x :: insL v l) = x :: (l ++ [v])
    rw [if_neg (Int32.not_lt.mpr (h x (List.mem_cons_self ..))), insL_end v l (fun y hy => h y (List.mem_cons_of_mem _ hy))]
theorem insL_big {v y : Int32} (hv : v < y) : ∀ l, insL v (l ++ [y]) = insL v l ++ [y]
  | [] => by
    show (if v < y then v :: y :: [] else y :: insL v []) = [v] ++ [y]
    rw [if_pos hv]
    rfl
  | x :: l => by
    show (if v < x then v :: x :: (l ++ [y]) else x :: insL v (l ++ [y])) = (if v < x then v :: x :: l else x :: insL v l) ++ [y]
    rw [insL_big hv l]
    split <;> rfl
def Fst (g : Nat → Int32) (l : List Int32) : Prop := ∀ i x, l[i]? = some x → g i = x
theorem insA_o {v : Int32} : ∀ (n : Nat) (g : Nat → Int32) (j : Nat), n < j → insA v n g j = g j
  | 0, g, j, h => up_o (by omega)
  | n + 1, g, j, h => by
    show (if g n ≤ v then up g (n + 1) v else insA v n (up g (n + 1) (g n))) j = g j
    split
    · exact up_o (by omega)
    · rw [insA_o n _ j (by omega), up_o (by omega)]
theorem insA_ok {v : Int32} : ∀ (n : Nat) (l : List Int32) (g : Nat → Int32), l.length = n → srt l → Fst g l → Fst (insA v n g) (insL v l)
  | 0, l, g, hl, hs, hg => by
    have : l = [] := List.length_eq_zero_iff.mp hl
    subst this
    intro i x hx
    have hi := (List.getElem?_eq_some_iff.mp hx).1
    have hi : i < 1 := hi
    have e0 : i = 0 := by omega
    subst e0
    have : v = x := Option.some.inj hx
    rw [← this]
    exact up_s g 0 v
  | n + 1, l, g, hl, hs, hg => by
    rcases List.eq_nil_or_concat l with e | ⟨l', y, e⟩
    · rw [e] at hl
      cases hl
    · rw [List.concat_eq_append] at e
      subst e
      rw [List.length_append, List.length_singleton] at hl
      have hl' : l'.length = n := by omega
      have hy : g n = y := hg n y (by rw [List.getElem?_append_right (by omega), show n - l'.length = 0 by omega]; rfl)
      obtain ⟨hs1, hs2, hs3⟩ := List.pairwise_append.mp hs
      have hg' : Fst g l' := fun i x hx => hg i x (by rw [List.getElem?_append_left (List.getElem?_eq_some_iff.mp hx).1]; exact hx)
      show Fst (if g n ≤ v then up g (n + 1) v else insA v n (up g (n + 1) (g n))) _
      by_cases c : g n ≤ v
      · rw [if_pos c, insL_end v _ (fun x hx => by
          rcases List.mem_append.mp hx with q | q
          · exact Int32.le_trans (hs3 x q y (List.mem_singleton.mpr rfl)) (hy ▸ c)
          · rw [List.mem_singleton.mp q, ← hy]; exact c)]
        intro i x hx
        have hi := (List.getElem?_eq_some_iff.mp hx).1
        rw [List.length_append, List.length_append, List.length_singleton, List.length_singleton] at hi
        by_cases q : i = n + 1
        · subst q
          rw [List.getElem?_append_right (by rw [List.length_append, List.length_singleton]; omega), List.length_append, List.length_singleton, show n + 1 - (l'.length + 1) = 0 by omega] at hx
          have : v = x := Option.some.inj hx
          rw [up_s, this]
        · rw [up_o q]
          rw [List.getElem?_append_left (by rw [List.length_append, List.length_singleton]; omega)] at hx
          exact hg i x hx
      · rw [if_neg c, hy, insL_big (Int32.not_le.mp (hy ▸ c))]
        have ih := insA_ok (v := v) n l' (up g (n + 1) y) hl' hs1 (fun i x hx => by
          have hi := (List.getElem?_eq_some_iff.mp hx).1
          rw [up_o (by omega)]
          exact hg' i x hx)
        intro i x hx
        have hi := (List.getElem?_eq_some_iff.mp hx).1
        rw [List.length_append, List.length_singleton, insL_len] at hi
        by_cases q : i = n + 1
        · subst q
          rw [List.getElem?_append_right (by rw [insL_len]; omega), insL_len, show n + 1 - (l'.length + 1) = 0 by omega] at hx
          have : y = x := Option.some.inj hx
          rw [insA_o n _ _ (by omega), up_s, this]
        · rw [List.getElem?_append_left (by rw [insL_len]; omega)] at hx
          exact ih i x hx
theorem foldl_out {α β : Type} (f : β → α → β) (hf : ∀ b x y, f (f b x) y = f (f b y) x) : ∀ (l : List α) (b : β) (x : α), f (l.foldl f b) x = l.foldl f (f b x)
  | [], _, _ => rfl
  | y :: l, b, x => by
    show f (l.foldl f (f b y)) x = l.foldl f (f (f b x) y)
    rw [foldl_out f hf l (f b y) x, hf b y x]
theorem foldl_rv {α β : Type} (f : β → α → β) (hf : ∀ b x y, f (f b x) y = f (f b y) x) : ∀ (l : List α) (b : β), l.reverse.foldl f b = l.foldl f b
  | [], _ => rfl
  | x :: l, b => by
    rw [List.reverse_cons, List.foldl_append, foldl_rv f hf l b]
    exact foldl_out f hf l b x
def inF (l : List Int32) (z : Nat → Int32) : List Int32 := insL (z 3) l
def orF (b : Int32) (z : Nat → Int32) : Int32 := b ||| (1 <<< (z 1 &&& 31))
theorem inF_rv (l : List (Nat → Int32)) (b : List Int32) : l.reverse.foldl inF b = l.foldl inF b := foldl_rv inF (fun b x y => insL_comm (y 3) (x 3) b) l b
theorem orF_rv (l : List (Nat → Int32)) (b : Int32) : l.reverse.foldl orF b = l.foldl orF b := foldl_rv orF (fun b x y => by
  show b ||| _ ||| _ = b ||| _ ||| _
  rw [Int32.or_assoc, Int32.or_comm (1 <<< (x 1 &&& 31)), ← Int32.or_assoc]) l b
def insF : List (Nat → Int32) → Nat → (Nat → Int32) → (Nat → Int32)
  | [], _, g => g
  | z :: r, i, g => insF r (i + 1) (insA (z 3) i g)
theorem insF_ok : ∀ (r : List (Nat → Int32)) (i : Nat) (g : Nat → Int32) (l : List Int32), l.length = i → srt l → Fst g l → Fst (insF r i g) (r.foldl inF l)
  | [], _, _, _, _, _, hg => hg
  | z :: r, i, g, l, hl, hs, hg => insF_ok r (i + 1) _ _ (by show (insL (z 3) l).length = i + 1; rw [insL_len, hl]) (insL_srt (z 3) l hs) (insA_ok i l g hl hs hg)
theorem inF_len : ∀ (r : List (Nat → Int32)) (l : List Int32), (r.foldl inF l).length = l.length + r.length
  | [], _ => rfl
  | z :: r, l => by
    show (r.foldl inF (insL (z 3) l)).length = l.length + (r.length + 1)
    rw [inF_len r, insL_len]
    omega
/-- what is told of the ordered ones -/
def spA (al : List (Nat → Int32)) (i : Nat) : Int32 := (al.foldl inF []).getD i 0
theorem insF_sp {al : List (Nat → Int32)} {g : Nat → Int32} {i : Nat} (hi : i < al.length) : insF al 0 g i = spA al i := by
  have h := insF_ok al 0 g [] rfl List.Pairwise.nil (fun i x hx => by cases hx)
  have hl := inF_len al []
  rw [List.length_nil, Nat.zero_add] at hl
  have e : (al.foldl inF [])[i]? = some (al.foldl inF [])[i] := List.getElem?_eq_getElem (by omega)
  rw [h i _ e]
  unfold spA
  rw [List.getD_eq_getElem?_getD, e]
  rfl
theorem spA_rv (al : List (Nat → Int32)) (i : Nat) : spA al.reverse i = spA al i := by
  unfold spA
  rw [inF_rv]
