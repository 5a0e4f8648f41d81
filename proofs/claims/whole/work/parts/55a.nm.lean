/-! NUMBERS ARE UNIQUE: what waits and what is under way. How many were numbered is not touched by a tick -/
theorem nm_I {R : aM} {a k : Nat} {v : Int32} (h : (Nat.beq a 19 && Nat.beq k 0) = false) : (mI R a k v).1 19 0 = R.1 19 0 := by
  show (if 19 = a ∧ 0 = k then v else R.1 19 0) = _
  rw [if_neg]
  rintro ⟨rfl, rfl⟩
  cases h
theorem nm_A {R : aM} {a k : Nat} {v : Int32} : (mA R a k v).1 19 0 = R.1 19 0 := rfl
theorem nm_act (R : aM) (l : Nat) : (lActivate R l).1 19 0 = R.1 19 0 := rfl
theorem nm_rel (R : aM) (c s : Nat) : (lRelease R c s).1 19 0 = R.1 19 0 := by
  unfold lRelease
  simp (decide := true) only [nm_I, nm_A]
theorem nm_move (R : aM) (l s c : Nat) : (lMove R l s c).1 19 0 = R.1 19 0 := by
  unfold lMove
  simp only
  split <;> simp (decide := true) only [nm_act, nm_rel, nm_I, nm_A]
theorem nm_sent (R : aM) (s : Nat) : (tSent R s).1 19 0 = R.1 19 0 := by
  unfold tSent
  simp (decide := true) only [nm_I, nm_A]
theorem nm_raise (R : aM) (l : Nat) : (lRaise R l).1 19 0 = R.1 19 0 := by
  unfold lRaise
  split <;> rfl
theorem nm_ease (R : aM) (l : Nat) : (lEase R l).1 19 0 = R.1 19 0 := by
  unfold lEase
  split <;> rfl
theorem nm_raiseF : ∀ (k l : Nat) (R : aM), (lRaiseF l k R).1 19 0 = R.1 19 0
  | 0, _, _ => rfl
  | k + 1, l, R => (nm_raiseF k (l + 1) (lRaise R l)).trans (nm_raise R l)
theorem nm_easeF : ∀ (k l : Nat) (R : aM), (lEaseF l k R).1 19 0 = R.1 19 0
  | 0, _, _ => rfl
  | k + 1, l, R => (nm_easeF k (l + 1) (lEase R l)).trans (nm_ease R l)
theorem nm_bal (R : aM) (s b n : Nat) : (rBal R s b n).1 19 0 = R.1 19 0 := by
  unfold rBal
  split
  · rfl
  · split
    · rfl
    · simp only [nm_raiseF, nm_A]
theorem nm_fill (R : aM) (s b n : Nat) : (rFill R s b n).1 19 0 = R.1 19 0 := by
  unfold rFill
  split
  · split
    · exact nm_easeF _ _ _
    · rw [nm_bal, nm_sent, nm_move]
  · split
    · split
      · rfl
      · rw [nm_sent, nm_move]
    · rfl
theorem nm_begin (R : aM) : (slBegin R).1 19 0 = R.1 19 0 := by
  unfold slBegin slEmpty
  simp (decide := true) only [nm_I]
theorem nm_head (R : aM) (b : Nat) : (rHead R b).1 19 0 = R.1 19 0 := by
  unfold rHead
  split
  · exact nm_begin R
  · split
    · simp (decide := true) only [nm_I, nm_A, nm_begin]
    · exact nm_begin R
theorem nm_take (R : aM) (o : Nat) : (hTake R o).1 19 0 = R.1 19 0 := by
  unfold hTake
  simp (decide := true) only [nm_I, nm_A]
theorem nm_recv (R : aM) (s b : Nat) : (rRecv R s b).1 19 0 = R.1 19 0 := by
  unfold rRecv
  simp only
  generalize (if nI b = 0 then nI s - 1 else nI s) = hv
  split
  · exact nm_head R b
  · split
    · split
      · rfl
      · exact nm_take R _
    · exact nm_begin R
theorem nm_on (R : aM) (s b : Nat) : (rOn R s b).1 19 0 = R.1 19 0 := by
  unfold rOn
  simp only
  generalize (if nI b = 0 then nI s else nI s - 1) = hv
  split
  · unfold tLost
    simp (decide := true) only [nm_I]
  · split
    · rfl
    · rfl
theorem nm_erase (R : aM) (s : Nat) : (rErase R s).1 19 0 = R.1 19 0 := by
  unfold rErase slEmpty
  split
  · rfl
  · split
    · rfl
    · simp (decide := true) only [nm_I]
theorem nm_open (R : aM) : (tdOpen R 28).1 19 0 = R.1 19 0 := by
  unfold tdOpen
  split <;> simp (decide := true) only [nm_I]
theorem nm_deliver (R : aM) (s f P : Nat) : (rDeliver R s f P).1 19 0 = R.1 19 0 := by
  unfold rDeliver
  simp only [nm_A, nm_open]
  unfold tDeliv
  simp (decide := true) only [nm_I, nm_A]
theorem nm_read (R : aM) (s : Nat) : (rReadAt R s).1 19 0 = R.1 19 0 := by
  unfold rReadAt
  split
  · exact nm_erase R s
  · rw [nm_erase, nm_deliver]
theorem nm_ask (R : aM) (B v : Nat) : (rAsk R B v).1 19 0 = R.1 19 0 := by
  unfold rAsk
  split
  · split
    · rfl
    · rw [nm_raiseF]
      simp (decide := true) only [nm_I, nm_A]
  · exact nm_raiseF _ _ _
theorem nm_asks : ∀ (k B : Nat) (R : aM), (rAsks B k R).1 19 0 = R.1 19 0
  | 0, _, _ => rfl
  | k + 1, B, R => (nm_asks k B (rAsk R B k)).trans (nm_ask R B k)
theorem nm_visit (R : aM) (s b n : Nat) : (rVisit R s b n).1 19 0 = R.1 19 0 := by
  unfold rVisit
  simp only
  split
  · exact nm_recv R s b
  · have e3 : ∀ Q : aM, (if Q.1 30 8 = nI s then mI Q 30 8 (-1) else Q).1 19 0 = Q.1 19 0 := fun Q => by
      split
      · simp (decide := true) only [nm_I]
      · rfl
    have e4 : ∀ Q : aM, (if Q.1 30 1 = 0 then rFill Q s b n else Q).1 19 0 = Q.1 19 0 := fun Q => by
      split
      · exact nm_fill _ _ _ _
      · rfl
    rw [nm_on, nm_asks, e3, e4, nm_read, nm_recv]
theorem nm_by (b n lv : Nat) : ∀ (m i : Nat) (R : aM), (rBy b n lv m i R).1 19 0 = R.1 19 0
  | 0, _, _ => rfl
  | m + 1, i, R => (nm_by b n lv m (i + 1) _).trans (nm_visit R _ b lv)
theorem nm_tick (R : aM) (n lv : Nat) : (rTick R n lv).1 19 0 = R.1 19 0 := by
  unfold rTick
  simp (decide := true) only [nm_I]
  rw [nm_by, nm_by]
def nmb (N : Int32) : Tg → Bool := fun z => decide (z.1 = N)
/-- each number at most once, and none that was not given -/
def Uq (v : Int32) (wl : Nat → List Sg) (Ln : Nat → List (Option Se)) : Prop := ∀ N, LV (nmb N) wl Ln none ≤ 1 ∧ (v < N → LV (nmb N) wl Ln none = 0)
theorem Uq.le {v v' : Int32} {wl wl' : Nat → List Sg} {Ln Ln' : Nat → List (Option Se)} (h : Uq v wl Ln) (e : v' = v) (hl : ∀ p, LV p wl' Ln' none ≤ LV p wl Ln none) : Uq v' wl' Ln' := fun N => by
  subst e
  have h1 := hl (nmb N)
  have h2 := h N
  exact ⟨by omega, fun q => by have := h2.2 q; omega⟩
theorem Uq.push {v : Int32} {wl : Nat → List Sg} {Ln : Nat → List (Option Se)} {s : Nat} {x : Sg} (h : Uq v wl Ln) (hs : s < 8) (hv : v < v + 1) (hx : x.1 = v + 1) : Uq (v + 1) (upl wl s (wl s ++ [x])) Ln := fun N => by
  have h2 := h N
  have e := CW_upl (p := nmb N) (wl := wl) (l := wl s ++ [x]) hs
  have c1 : cw (nmb N) s (wl s ++ [x]) = cw (nmb N) s (wl s) + (if v + 1 = N then 1 else 0) := by
    unfold cw
    rw [List.countP_append, List.countP_singleton]
    simp only [nmb, hx, decide_eq_true_eq]
  unfold LV at h2 ⊢
  by_cases q : v + 1 = N
  · rw [if_pos q] at c1
    have h3 := h2.2 (by rw [← q]; exact hv)
    refine ⟨by omega, fun z => ?_⟩
    rw [q] at z
    exact absurd z (Int32.lt_irrefl)
  · rw [if_neg q] at c1
    refine ⟨by omega, fun z => ?_⟩
    have := h2.2 (Int32.lt_trans hv z)
    omega
