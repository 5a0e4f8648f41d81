/-! ONE MORE COMES: both alike -/
theorem lnk_app {nx : Nat → Int32} {p c : Nat} : ∀ {r : List Nat}, (r ++ [p]).Nodup → lnk nx (r ++ [p]) → lnk (up nx p (nI c)) (r ++ [p] ++ [c])
  | [], _, _ => ⟨fun _ => up_s _ _ _, fun q => absurd rfl q, trivial⟩
  | x :: r, hn, hl => by
    have hxp : ¬ x = p := fun e => (List.nodup_cons.mp hn).1 (by rw [e]; simp)
    refine ⟨fun _ => ?_, lnk_app (List.nodup_cons.mp hn).2 hl.2⟩
    rw [up_o hxp]
    have := hl.1 (by simp)
    rw [this]
    cases r <;> rfl
/-- a new one at the end of a line -/
theorem QC_push {A A' : Nat → Nat → Int32} {fre : Int32} {wl : Nat → List Sg} {cs : Nat → List Nat} {fr : List Nat} {own : Nat → Nat} {s b v l c : Nat} {x : Sg} (h : QC A fre wl cs (c :: fr) own) (hs : s < 8) (hb : b < 2) (hv : v < 3) (hl : l = (s * 2 + b) * 3 + v) (hx : isL s b v x = true)
    (e9 : A' 9 = up (A 9) l (nI ((cs l).length + 1))) (e11 : A' 11 = up (A 11) l (nI c)) (e12 : A' 12 = up (A 12) c x.1) (e13 : A' 13 = up (A 13) c (nI x.2.1)) (e14 : A' 14 = up (A 14) c x.2.2.2)
    (e10 : (cs l = [] ∧ A' 10 = up (A 10) l (nI c) ∧ A' 15 = A 15) ∨ (∃ r p, cs l = r ++ [p] ∧ A' 10 = A 10 ∧ A' 15 = up (A 15) p (nI c))) :
    QC A' (A 15 c) (upl wl s (wl s ++ [x])) (upl cs l (cs l ++ [c])) fr (upl own c l) := by
  obtain ⟨h1, ⟨f1, f2, f3, f4⟩, h3, h4⟩ := h
  have hcf : c ∉ fr := (List.nodup_cons.mp f2).1
  have hoc : own c = 48 := h3 c (List.mem_cons_self ..)
  have hc240 : c < 240 := f1 c (List.mem_cons_self ..)
  have hl48 : l < 48 := by omega
  have hncs : ∀ s' b' v', s' < 8 → b' < 2 → v' < 3 → c ∉ cs ((s' * 2 + b') * 3 + v') := fun s' b' v' p q r z => by
    have := (h1 s' b' v' p q r).2 c z
    omega
  have hp : ∀ s' b' v', s' < 8 → b' < 2 → v' < 3 → ∀ y, y ∈ cs ((s' * 2 + b') * 3 + v') → (A' 12 y = A 12 y ∧ A' 13 y = A 13 y ∧ A' 14 y = A 14 y) := fun s' b' v' p q r y hy => by
    have hne : ¬ y = c := fun e => hncs s' b' v' p q r (e ▸ hy)
    rw [e12, e13, e14, up_o hne, up_o hne, up_o hne]
    exact ⟨rfl, rfl, rfl⟩
  refine ⟨?_, ⟨fun y hy => f1 y (List.mem_cons_of_mem _ hy), (List.nodup_cons.mp f2).2, ?_, ?_⟩, ?_, ?_⟩
  · intro s' b' v' hs' hb' hv'
    obtain ⟨⟨q1, q2, q3, q4, q5, q6, q7⟩, hown⟩ := h1 s' b' v' hs' hb' hv'
    by_cases hq : (s' * 2 + b') * 3 + v' = l
    · have es : s' = s := by omega
      have eb : b' = b := by omega
      have ev : v' = v := by omega
      subst es; subst eb; subst ev
      have hnc := hncs s' b' v' hs' hb' hv'
      rw [hq] at q1 q2 q3 q4 q5 q6 q7 hown hnc ⊢
      rw [upl_s]
      have hql : ql (upl wl s' (wl s' ++ [x])) s' b' v' = ql wl s' b' v' ++ [x] := by
        unfold ql
        rw [upl_s, List.filter_append, List.filter_cons, hx]
        rfl
      rw [hql]
      have hpp := hp s' b' v' hs' hb' hv'
      rw [hq] at hpp
      refine ⟨⟨fun y hy => ?_, ?_, ?_, fun _ => ?_, fun r y hr => ?_, ?_, ?_⟩, fun y hy => ?_⟩
      · rcases List.mem_append.mp hy with z | z
        · exact q1 y z
        · rw [List.mem_singleton.mp z]; exact hc240
      · rw [List.nodup_append]
        exact ⟨q2, by simp, fun y hy z hz => by rw [List.mem_singleton.mp hz]; exact fun e => hnc (e ▸ hy)⟩
      · rcases e10 with ⟨k1, k2, k3⟩ | ⟨r, p, k1, k2, k3⟩
        · rw [k1]
          exact ⟨fun z => absurd rfl z, trivial⟩
        · rw [k1, k3]
          rw [k1] at q2 q3
          exact lnk_app q2 q3
      · rcases e10 with ⟨k1, k2, k3⟩ | ⟨r, p, k1, k2, k3⟩
        · rw [k1, k2, up_s]; rfl
        · have := q4 (by rw [k1]; simp)
          rw [k2, this, k1]
          cases r <;> rfl
      · have := List.append_inj_right' hr rfl
        rw [e11, up_s]
        have hyc : c = y := by simpa using this
        rw [hyc]
      · rw [e9, up_s, List.length_append]; rfl
      · rw [List.map_append, List.map_append, ← q7]
        congr 1
        · apply List.map_congr_left
          intro y hy
          obtain ⟨z1, z2, z3⟩ := hpp y hy
          rw [z1, z2, z3]
        · simp only [List.map_cons, List.map_nil, e12, e13, e14, up_s]
      · rcases List.mem_append.mp hy with z | z
        · rw [upl_o (show y ≠ c from fun e => hnc (e ▸ z))]
          exact hown y z
        · rw [List.mem_singleton.mp z, upl_s]
    · rw [upl_o hq]
      have hnc := hncs s' b' v' hs' hb' hv'
      have hql : ql (upl wl s (wl s ++ [x])) s' b' v' = ql wl s' b' v' := by
        unfold ql
        by_cases es : s' = s
        · subst es
          have hf : isL s' b' v' x = false := by
            cases hz : isL s' b' v' x with
            | false => rfl
            | true =>
              obtain ⟨z1, z2⟩ := isL_iff.mp hz
              obtain ⟨z3, z4⟩ := isL_iff.mp hx
              exact absurd (by rw [hl, ← z1, ← z2, ← z3, ← z4]) hq
          rw [upl_s, List.filter_append, List.filter_cons, hf]
          simp
        · rw [upl_o es]
      rw [hql]
      have hpp := hp s' b' v' hs' hb' hv'
      refine ⟨⟨q1, q2, ?_, fun z => ?_, fun r y hr => ?_, ?_, ?_⟩, fun y hy => ?_⟩
      · rcases e10 with ⟨k1, k2, k3⟩ | ⟨r, p, k1, k2, k3⟩
        · rw [k3]; exact q3
        · rw [k3]
          refine lnk_up (fun z => ?_) q3
          have o1 := hown p z
          have o2 := (h1 s b v hs hb hv).2 p (by rw [← hl, k1]; simp)
          omega
      · rcases e10 with ⟨k1, k2, k3⟩ | ⟨r, p, k1, k2, k3⟩
        · rw [k2, up_o hq]; exact q4 z
        · rw [k2]; exact q4 z
      · rw [e11, up_o hq]; exact q5 r y hr
      · rw [e9, up_o hq]; exact q6
      · rw [← q7]
        apply List.map_congr_left
        intro y hy
        obtain ⟨z1, z2, z3⟩ := hpp y hy
        rw [z1, z2, z3]
      · rw [upl_o (show y ≠ c from fun e => hnc (e ▸ hy))]
        exact hown y hy
  · exact f4.1
  · rcases e10 with ⟨k1, k2, k3⟩ | ⟨r, p, k1, k2, k3⟩
    · rw [k3]; exact f4.2
    · rw [k3]
      refine lnF_up (fun z => ?_) f4.2
      have o1 := h3 p (List.mem_cons_of_mem _ z)
      have o2 := (h1 s b v hs hb hv).2 p (by rw [← hl, k1]; simp)
      omega
  · intro y hy
    rw [upl_o (show y ≠ c from fun e => hcf (e ▸ hy))]
    exact h3 y (List.mem_cons_of_mem _ hy)
  · have := tot_upl (wl := wl) (l := wl s ++ [x]) hs
    rw [List.length_append, List.length_singleton] at this
    rw [List.length_cons] at h4
    omega
theorem WS_push {f : Nat → Int32} {s : Nat} {l : List Sg} {x : Sg} (hw : WS f s l) (hs : s < 8) (hl : l.length < 30) (hx1 : x.2.1 < 8) (hx2 : x.2.2.1 < 3) {g : Nat → Int32} (g0 : g s = nI (l.length + 1)) (g1 : sgR g s l.length x) (g2 : ∀ j, 8 + 120 * s ≤ j → j < 8 + 120 * s + 4 * l.length → g j = f j) : WS g s (l ++ [x]) := by
  obtain ⟨h1, h2, h3⟩ := hw
  refine ⟨by rw [List.length_append]; exact g0, by rw [List.length_append]; simp; omega, fun k y hk => ?_⟩
  by_cases hkl : k < l.length
  · rw [List.getElem?_append_left hkl] at hk
    have := h3 k y hk
    unfold sgR at this ⊢
    rw [g2 _ (by omega) (by omega), g2 _ (by omega) (by omega), g2 _ (by omega) (by omega), g2 _ (by omega) (by omega)]
    exact this
  · rw [List.getElem?_append_right (by omega)] at hk
    have hz : k - l.length < 1 := (List.getElem?_eq_some_iff.mp hk).1
    have hk0 : k = l.length := by omega
    subst hk0
    rw [Nat.sub_self] at hk
    cases hk
    exact ⟨g1, hx1, hx2⟩
theorem WS_oth {f g : Nat → Int32} {s s' : Nat} {l : List Sg} (hw : WS f s' l) (hs : s < 8) (hs' : s' < 8) (hne : ¬ s' = s) (h : ∀ j, j < 968 → ¬ j = s → ¬ (8 + 120 * s ≤ j ∧ j < 128 + 120 * s) → g j = f j) : WS g s' l := by
  obtain ⟨h1, h2, h3⟩ := hw
  refine ⟨by rw [h _ (by omega) hne (by omega)]; exact h1, h2, fun k x hk => ?_⟩
  have hkl := (List.getElem?_eq_some_iff.mp hk).1
  have := h3 k x hk
  unfold sgR at this ⊢
  rw [h _ (by omega) (by omega) (by omega), h _ (by omega) (by omega) (by omega), h _ (by omega) (by omega) (by omega), h _ (by omega) (by omega) (by omega)]
  exact this
