/-! WHAT WAITS: a segment is its number, its goal, its level and when it came -/
abbrev Sg : Type := Int32 × Nat × Nat × Int32
def sgR (f : Nat → Int32) (s k : Nat) (x : Sg) : Prop := f (8 + 4 * (30 * s + k)) = x.1 ∧ f (8 + 4 * (30 * s + k) + 1) = nI x.2.1 ∧ f (8 + 4 * (30 * s + k) + 2) = nI x.2.2.1 ∧ f (8 + 4 * (30 * s + k) + 3) = x.2.2.2
/-- the reference's numbers tell l of the station s -/
def WS (f : Nat → Int32) (s : Nat) (l : List Sg) : Prop := f s = nI l.length ∧ l.length ≤ 30 ∧ ∀ k x, l[k]? = some x → sgR f s k x ∧ x.2.1 < 8 ∧ x.2.2.1 < 3
theorem WS.cg {f g : Nat → Int32} {s : Nat} {l : List Sg} (hw : WS f s l) (hs : s < 8) (h : ∀ j, j < 968 → g j = f j) : WS g s l := by
  obtain ⟨h1, h2, h3⟩ := hw
  refine ⟨by rw [h _ (by omega)]; exact h1, h2, fun k x hk => ?_⟩
  have hkl := (List.getElem?_eq_some_iff.mp hk).1
  obtain ⟨⟨a1, a2, a3, a4⟩, a5⟩ := h3 k x hk
  refine ⟨⟨?_, ?_, ?_, ?_⟩, a5⟩
  · rw [h _ (by omega)]; exact a1
  · rw [h _ (by omega)]; exact a2
  · rw [h _ (by omega)]; exact a3
  · rw [h _ (by omega)]; exact a4
theorem mOut_o {f : Nat → Int32} {s k c j : Nat} (hs : s < 8) (hc : c ≤ 30) (hj : 968 ≤ j) : mOut f s k c j = f j := by
  unfold mOut
  rw [up_o (by omega), shf_o (by omega)]
theorem WS_out {f : Nat → Int32} {s k : Nat} {l : List Sg} (hw : WS f s l) (hs : s < 8) (hk : k < l.length) : WS (mOut f s k l.length) s (l.eraseIdx k) := by
  obtain ⟨h1, h2, h3⟩ := hw
  have hl : (l.eraseIdx k).length = l.length - 1 := List.length_eraseIdx_of_lt hk
  refine ⟨by rw [hl]; exact up_s _ _ _, by omega, fun j x hj => ?_⟩
  have hjl := (List.getElem?_eq_some_iff.mp hj).1
  rw [hl] at hjl
  rw [List.getElem?_eraseIdx] at hj
  unfold mOut sgR
  rw [up_o (by omega), up_o (by omega), up_o (by omega), up_o (by omega)]
  by_cases hq : j < k
  · rw [if_pos hq] at hj
    rw [shf_o (by omega), shf_o (by omega), shf_o (by omega), shf_o (by omega)]
    exact h3 j x hj
  · rw [if_neg hq] at hj
    have := h3 (j + 1) x hj
    unfold sgR at this
    have e : ∀ i, i < 4 → shf f (8 + 4 * (30 * s + k)) (4 * (l.length - 1 - k)) 4 (8 + 4 * (30 * s + j) + i) = f (8 + 4 * (30 * s + (j + 1)) + i) := by
      intro i hi
      simp only [shf]
      rw [if_pos (by omega)]
      congr 1
      omega
    have e0 := e 0 (by omega)
    rw [Nat.add_zero, Nat.add_zero] at e0
    rw [e0, e 1 (by omega), e 2 (by omega), e 3 (by omega)]
    exact this
theorem WS_out_o {f : Nat → Int32} {s s' k c : Nat} {l : List Sg} (hw : WS f s' l) (hs : s < 8) (hs' : s' < 8) (hne : s' ≠ s) (hk : k < c) (hc : c ≤ 30) : WS (mOut f s k c) s' l := by
  obtain ⟨h1, h2, h3⟩ := hw
  have e : ∀ j, ¬ (8 + 120 * s ≤ j ∧ j < 128 + 120 * s) → j ≠ s → mOut f s k c j = f j := by
    intro j hj hj2
    unfold mOut
    rw [up_o hj2, shf_o (by omega)]
  refine ⟨by rw [e s' (by omega) hne]; exact h1, h2, fun j x hj => ?_⟩
  have hjl := (List.getElem?_eq_some_iff.mp hj).1
  have := h3 j x hj
  unfold sgR at this ⊢
  rw [e _ (by omega) (by omega), e _ (by omega) (by omega), e _ (by omega) (by omega), e _ (by omega) (by omega)]
  exact this
def bs (s g : Nat) : Nat := if g ≤ s then 1 else 0
def isL (s b v : Nat) (x : Sg) : Bool := decide (bs s x.2.1 = b) && decide (x.2.2.1 = v)
theorem isL_iff {s b v : Nat} {x : Sg} : isL s b v x = true ↔ bs s x.2.1 = b ∧ x.2.2.1 = v := by simp [isL]
/-- the line (b, v) of the station s -/
def ql (wl : Nat → List Sg) (s b v : Nat) : List Sg := (wl s).filter (isL s b v)
theorem bs_nI {s g b : Nat} (hs : s < 8) (hg : g < 8) (hb : b < 2) : ((if nI g ≤ nI s then (1 : Int32) else 0) = nI b) = (bs s g = b) := by
  unfold bs
  by_cases hq : g ≤ s
  · rw [if_pos (nI_le hq (by omega)), if_pos hq]
    rcases (show b = 0 ∨ b = 1 by omega) with rfl | rfl
    · exact propext ⟨fun q => absurd q (by decide), fun q => absurd q (by decide)⟩
    · exact propext ⟨fun _ => rfl, fun _ => rfl⟩
  · rw [if_neg (nI_ge (by omega) (by omega)), if_neg hq]
    rcases (show b = 0 ∨ b = 1 by omega) with rfl | rfl
    · exact propext ⟨fun _ => rfl, fun _ => rfl⟩
    · exact propext ⟨fun q => absurd q (by decide), fun q => absurd q (by decide)⟩
theorem spot_aux {f : Nat → Int32} {s b v : Nat} (hs : s < 8) (hb : b < 2) (hv : v < 3) : ∀ (suf pre : List Sg), WS f s (pre ++ suf) → (suf.filter (isL s b v) = [] ∧ mSpot f s b v 0 pre.length suf.length = -1) ∨ ∃ l1 x l2, suf = l1 ++ x :: l2 ∧ l1.filter (isL s b v) = [] ∧ isL s b v x = true ∧ mSpot f s b v 0 pre.length suf.length = nI (pre.length + l1.length)
  | [], pre, hw => Or.inl ⟨rfl, rfl⟩
  | y :: ys, pre, hw => by
    have hy := hw.2.2 pre.length y (by simp)
    obtain ⟨⟨-, a2, a3, -⟩, a5, a6⟩ := hy
    have ih := spot_aux hs hb hv ys (pre ++ [y]) (by rw [List.append_assoc]; exact hw)
    rw [List.length_append, List.length_singleton] at ih
    have e2 : (nI y.2.2.1 = nI v) = (y.2.2.1 = v) := propext (nI_eq (by omega) (by omega))
    simp only [List.length_cons, mSpot, a2, a3, bs_nI hs a5 hb, e2, if_true]
    have ih' : isL s b v y = false → ((y :: ys).filter (isL s b v) = [] ∧ mSpot f s b v 0 (pre.length + 1) ys.length = -1) ∨ ∃ l1 x l2, y :: ys = l1 ++ x :: l2 ∧ l1.filter (isL s b v) = [] ∧ isL s b v x = true ∧ mSpot f s b v 0 (pre.length + 1) ys.length = nI (pre.length + l1.length) := by
      intro hf
      rcases ih with ⟨q1, q2⟩ | ⟨l1, x, l2, q1, q2, q3, q4⟩
      · exact Or.inl ⟨by rw [List.filter_cons, hf]; exact q1, q2⟩
      · refine Or.inr ⟨y :: l1, x, l2, by rw [q1]; rfl, by rw [List.filter_cons, hf]; exact q2, q3, ?_⟩
        rw [q4]
        congr 1
        simp only [List.length_cons]
        omega
    by_cases c1 : bs s y.2.1 = b
    · by_cases c2 : y.2.2.1 = v
      · rw [if_pos c1, if_pos c2]
        exact Or.inr ⟨[], y, ys, rfl, rfl, isL_iff.mpr ⟨c1, c2⟩, rfl⟩
      · rw [if_pos c1, if_neg c2]
        exact ih' (by simp [isL, c2])
    · rw [if_neg c1]
      exact ih' (by simp [isL, c1])
theorem spot_cases {f : Nat → Int32} {s b v : Nat} {l : List Sg} (hs : s < 8) (hb : b < 2) (hv : v < 3) (hw : WS f s l) : (l.filter (isL s b v) = [] ∧ mSpot f s b v 0 0 l.length = -1) ∨ ∃ l1 x l2, l = l1 ++ x :: l2 ∧ l1.filter (isL s b v) = [] ∧ isL s b v x = true ∧ mSpot f s b v 0 0 l.length = nI l1.length := by
  rcases spot_aux hs hb hv l [] hw with h | ⟨l1, x, l2, q1, q2, q3, q4⟩
  · exact Or.inl h
  · refine Or.inr ⟨l1, x, l2, q1, q2, q3, ?_⟩
    simpa using q4
/-! chains of cells -/
def lnk (nx : Nat → Int32) : List Nat → Prop
  | [] => True
  | c :: r => (r ≠ [] → nx c = nI (r.headD 240)) ∧ lnk nx r
def lnF (nx : Nat → Int32) : List Nat → Prop
  | [] => True
  | c :: r => nx c = nI (r.headD 240) ∧ lnF nx r
theorem lnk_up {nx : Nat → Int32} {c : Nat} {v : Int32} : ∀ {cs : List Nat}, c ∉ cs → lnk nx cs → lnk (up nx c v) cs
  | [], _, _ => trivial
  | x :: r, hc, h => ⟨fun q => by rw [up_o (fun e => hc (by rw [e]; exact List.mem_cons_self ..))]; exact h.1 q, lnk_up (fun q => hc (List.mem_cons_of_mem _ q)) h.2⟩
theorem lnF_up {nx : Nat → Int32} {c : Nat} {v : Int32} : ∀ {cs : List Nat}, c ∉ cs → lnF nx cs → lnF (up nx c v) cs
  | [], _, _ => trivial
  | x :: r, hc, h => ⟨by rw [up_o (fun e => hc (by rw [e]; exact List.mem_cons_self ..))]; exact h.1, lnF_up (fun q => hc (List.mem_cons_of_mem _ q)) h.2⟩
/-- the cells cs are the line l, and hold q -/
def QL (A : Nat → Nat → Int32) (l : Nat) (cs : List Nat) (q : List Sg) : Prop := (∀ c, c ∈ cs → c < 240) ∧ cs.Nodup ∧ lnk (A 15) cs ∧ (cs ≠ [] → A 10 l = nI (cs.headD 240)) ∧ (∀ r c, cs = r ++ [c] → A 11 l = nI c) ∧ A 9 l = nI cs.length ∧ cs.map (fun c => (A 12 c, A 13 c, A 14 c)) = q.map (fun x => (x.1, nI x.2.1, x.2.2.2))
def QF (A : Nat → Nat → Int32) (fre : Int32) (fr : List Nat) : Prop := (∀ c, c ∈ fr → c < 240) ∧ fr.Nodup ∧ fre = nI (fr.headD 240) ∧ lnF (A 15) fr
def tot (wl : Nat → List Sg) : Nat := (wl 0).length + (wl 1).length + (wl 2).length + (wl 3).length + (wl 4).length + (wl 5).length + (wl 6).length + (wl 7).length
def upl {α : Type} (wl : Nat → α) (s : Nat) (l : α) : Nat → α := fun i => if i = s then l else wl i
theorem upl_s {α : Type} (wl : Nat → α) (s : Nat) (l : α) : upl wl s l s = l := by simp [upl]
theorem upl_o {α : Type} {wl : Nat → α} {s i : Nat} {l : α} (h : i ≠ s) : upl wl s l i = wl i := by simp [upl, h]
theorem tot_upl {wl : Nat → List Sg} {s : Nat} {l : List Sg} (hs : s < 8) : tot (upl wl s l) + (wl s).length = tot wl + l.length := by
  unfold tot
  rcases (show s = 0 ∨ s = 1 ∨ s = 2 ∨ s = 3 ∨ s = 4 ∨ s = 5 ∨ s = 6 ∨ s = 7 by omega) with rfl | rfl | rfl | rfl | rfl | rfl | rfl | rfl <;> simp only [upl, if_true, Nat.reduceEqDiff, if_false, reduceIte] <;> omega
def QC (A : Nat → Nat → Int32) (fre : Int32) (wl : Nat → List Sg) (cs : Nat → List Nat) (fr : List Nat) (own : Nat → Nat) : Prop := (∀ s b v, s < 8 → b < 2 → v < 3 → QL A ((s * 2 + b) * 3 + v) (cs ((s * 2 + b) * 3 + v)) (ql wl s b v) ∧ ∀ c, c ∈ cs ((s * 2 + b) * 3 + v) → own c = (s * 2 + b) * 3 + v) ∧ QF A fre fr ∧ (∀ c, c ∈ fr → own c = 48) ∧ fr.length + tot wl = 240
theorem QL.cg {A A' : Nat → Nat → Int32} {l : Nat} {cs : List Nat} {q : List Sg} (h : QL A l cs q) (e : ∀ k, 9 ≤ k → k ≤ 15 → A' k = A k) : QL A' l cs q := by
  unfold QL at h ⊢
  rw [e 9 (by omega) (by omega), e 10 (by omega) (by omega), e 11 (by omega) (by omega), e 12 (by omega) (by omega), e 13 (by omega) (by omega), e 14 (by omega) (by omega), e 15 (by omega) (by omega)]
  exact h
theorem QC.cg {A A' : Nat → Nat → Int32} {fre : Int32} {wl : Nat → List Sg} {cs : Nat → List Nat} {fr : List Nat} {own : Nat → Nat} (h : QC A fre wl cs fr own) (e : ∀ k, 9 ≤ k → k ≤ 15 → A' k = A k) : QC A' fre wl cs fr own := by
  obtain ⟨h1, h2, h3⟩ := h
  refine ⟨fun s b v hs hb hv => ⟨(h1 s b v hs hb hv).1.cg e, (h1 s b v hs hb hv).2⟩, ?_, h3⟩
  unfold QF at h2 ⊢
  rw [e 15 (by omega) (by omega)]
  exact h2
theorem filt_del {s b v b' v' : Nat} {l1 l2 : List Sg} {x : Sg} (hx : isL s b v x = true) (hne : ¬ (b' = b ∧ v' = v)) : (l1 ++ x :: l2).filter (isL s b' v') = (l1 ++ l2).filter (isL s b' v') := by
  have : isL s b' v' x = false := by
    obtain ⟨q1, q2⟩ := isL_iff.mp hx
    cases hq : isL s b' v' x with
    | false => rfl
    | true =>
      obtain ⟨q3, q4⟩ := isL_iff.mp hq
      exact absurd ⟨q3.symm.trans q1, q4.symm.trans q2⟩ hne
  rw [List.filter_append, List.filter_cons, this, List.filter_append]
  rfl
/-- the first of a line goes -/
theorem QC_pop {A A' : Nat → Nat → Int32} {fre : Int32} {wl : Nat → List Sg} {cs : Nat → List Nat} {fr : List Nat} {own : Nat → Nat} {s b v l c : Nat} {r : List Nat} {l1 l2 : List Sg} {x : Sg} (h : QC A fre wl cs fr own) (hs : s < 8) (hb : b < 2) (hv : v < 3) (hl : l = (s * 2 + b) * 3 + v) (hcs : cs l = c :: r) (hwl : wl s = l1 ++ x :: l2) (hl1 : l1.filter (isL s b v) = []) (hx : isL s b v x = true)
    (e9 : A' 9 = up (A 9) l (nI r.length)) (e10 : A' 10 = up (A 10) l (A 15 c)) (e15 : A' 15 = up (A 15) c fre) (e11 : A' 11 = A 11) (e12 : A' 12 = A 12) (e13 : A' 13 = A 13) (e14 : A' 14 = A 14) :
    QC A' (nI c) (upl wl s (l1 ++ l2)) (upl cs l r) (c :: fr) (upl own c 48) := by
  obtain ⟨h1, h2, h3, h4⟩ := h
  have hL := h1 s b v hs hb hv
  rw [← hl, hcs] at hL
  obtain ⟨⟨q1, q2, q3, q4, q5, q6, q7⟩, hown⟩ := hL
  have hcr : c ∉ r := (List.nodup_cons.mp q2).1
  have hoc : own c = l := hown c (List.mem_cons_self ..)
  have hcf : c ∉ fr := fun q => by have := h3 c q; omega
  refine ⟨?_, ?_, ?_, ?_⟩
  · intro s' b' v' hs' hb' hv'
    by_cases hq : (s' * 2 + b') * 3 + v' = l
    · have es : s' = s := by omega
      have eb : b' = b := by omega
      have ev : v' = v := by omega
      subst es; subst eb; subst ev
      rw [hq, upl_s]
      have hfil : ql (upl wl s' (l1 ++ l2)) s' b' v' = l2.filter (isL s' b' v') := by
        unfold ql
        rw [upl_s, List.filter_append, hl1, List.nil_append]
      have hfil0 : ql wl s' b' v' = x :: l2.filter (isL s' b' v') := by
        unfold ql
        rw [hwl, List.filter_append, hl1, List.filter_cons, hx]
        rfl
      rw [hfil0] at q7
      rw [hfil]
      refine ⟨⟨fun c' hc' => q1 c' (List.mem_cons_of_mem _ hc'), (List.nodup_cons.mp q2).2, ?_, ?_, ?_, ?_, ?_⟩, ?_⟩
      · rw [e15]
        exact lnk_up hcr q3.2
      · intro hr
        rw [e10, up_s]
        exact q3.1 hr
      · intro r0 c0 hr
        rw [e11]
        exact q5 (c :: r0) c0 (by rw [hr]; rfl)
      · rw [e9, up_s]
      · rw [e12, e13, e14]
        simp only [List.map_cons, List.cons.injEq] at q7
        exact q7.2
      · intro c' hc'
        rw [upl_o (show c' ≠ c from fun e => hcr (e ▸ hc'))]
        exact hown c' (List.mem_cons_of_mem _ hc')
    · rw [upl_o hq]
      obtain ⟨⟨p1, p2, p3, p4, p5, p6, p7⟩, pown⟩ := h1 s' b' v' hs' hb' hv'
      have hcl : c ∉ cs ((s' * 2 + b') * 3 + v') := fun q => hq ((pown c q).symm.trans hoc)
      have hfil : ql (upl wl s (l1 ++ l2)) s' b' v' = ql wl s' b' v' := by
        unfold ql
        by_cases es : s' = s
        · subst es
          rw [upl_s, hwl, filt_del hx (fun q => hq (by rw [q.1, q.2]; exact hl.symm))]
        · rw [upl_o es]
      rw [hfil]
      refine ⟨⟨p1, p2, ?_, ?_, ?_, ?_, ?_⟩, ?_⟩
      · rw [e15]; exact lnk_up hcl p3
      · intro hr; rw [e10, up_o hq]; exact p4 hr
      · intro r0 c0 hr; rw [e11]; exact p5 r0 c0 hr
      · rw [e9, up_o hq]; exact p6
      · rw [e12, e13, e14]; exact p7
      · intro c' hc'
        rw [upl_o (show c' ≠ c from fun e => hcl (e ▸ hc'))]
        exact pown c' hc'
  · obtain ⟨f1, f2, f3, f4⟩ := h2
    refine ⟨fun c' hc' => (List.mem_cons.mp hc').elim (fun e => by rw [e]; exact q1 c (List.mem_cons_self ..)) (f1 c'), List.nodup_cons.mpr ⟨hcf, f2⟩, rfl, ?_, ?_⟩
    · rw [e15, up_s]; exact f3
    · rw [e15]; exact lnF_up hcf f4
  · intro c' hc'
    by_cases e : c' = c
    · rw [e, upl_s]
    · rw [upl_o e]
      exact h3 c' ((List.mem_cons.mp hc').resolve_left e)
  · have := tot_upl (wl := wl) (l := l1 ++ l2) hs
    rw [hwl, List.length_append, List.length_cons, List.length_append] at this
    rw [List.length_cons]
    omega
