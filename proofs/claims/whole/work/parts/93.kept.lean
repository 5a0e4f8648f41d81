/-! WHAT WAS IS KEPT, both alike -/
def kC (c : Nat) : Nat := if c = 40 then 40 else c + 1
def kS (c st : Nat) : Nat := if c = 40 then (st + 1) % 40 else st
def kI (c st : Nat) : Nat := if c = 40 then st else (st + c) % 40
theorem kI_lt {c st : Nat} (h : st < 40) : kI c st < 40 := by unfold kI; split <;> omega
theorem kI_eq {c st : Nat} (hc : c ≤ 40) (h : st < 40) : kI c st = (st + c) % 40 := by unfold kI; split <;> omega
theorem kS_lt {c st : Nat} (h : st < 40) : kS c st < 40 := by unfold kS; split <;> omega
theorem kC_le {c : Nat} (h : c ≤ 40) : kC c ≤ 40 := by unfold kC; split <;> omega
theorem k_step {c st st2 i : Nat} (hc : c ≤ 40) (h1 : st < 40) (h2 : st2 < 40) (hi : i < kC c) : ((kS c st + i) % 40 = kI c st ∧ (kS c st2 + i) % 40 = kI c st2) ∨ ∃ i0, i0 < c ∧ (kS c st + i) % 40 = (st + i0) % 40 ∧ ¬ (st + i0) % 40 = kI c st ∧ (kS c st2 + i) % 40 = (st2 + i0) % 40 ∧ ¬ (st2 + i0) % 40 = kI c st2 := by
  unfold kS kI
  unfold kC at hi
  by_cases q : c = 40
  · rw [if_pos q] at hi
    simp only [if_pos q]
    by_cases e : i = 39
    · left; omega
    · right; exact ⟨i + 1, by omega, by omega, by omega, by omega, by omega⟩
  · rw [if_neg q] at hi
    simp only [if_neg q]
    by_cases e : i = c
    · left; omega
    · right; exact ⟨i, by omega, by omega, by omega, by omega, by omega⟩
theorem cpF_in {g h : Nat → Int32} {so dd i j : Nat} (hj : j < i) : cpF g h so dd i (dd + j) = g (so + j) := by
  unfold cpF
  rw [if_pos (by omega), show dd + j - dd = j by omega]
theorem cpF_o {g h : Nat → Int32} {so dd i j : Nat} (hj : j < dd ∨ dd + i ≤ j) : cpF g h so dd i j = h j := if_neg (by omega)
theorem pKeep_sm {M : aM} {p c st b n : Nat} (h : p < b ∨ b + n ≤ p) : Sm M (pKeep M p c st) b n := by
  unfold pKeep
  split <;> exact Sm_I h
section
variable {M X : aM} {a p b z : Nat} {F F' : Nat → Option Nat} {f K : Nat → Int32} {n dl bal lv t B c st st2 : Nat} {wl : Nat → List Sg} {al l : List (Nat → Int32)} {Ln : Nat → List (Option Se)}
theorem pKeep_1 (h1 : M.1 p 1 = nI c) (h2 : M.1 p 2 = nI st) (hc : c ≤ 40) : (pKeep M p c st).1 p 1 = nI (kC c) ∧ (pKeep M p c st).1 p 2 = nI (kS c st) := by
  unfold pKeep kC kS
  by_cases q : c = 40
  · simp only [if_pos q]
    exact ⟨by rw [mI_At, if_neg (by decide), h1, q], by rw [mI_At, if_pos rfl]⟩
  · simp only [if_neg q]
    exact ⟨by rw [mI_At, if_pos rfl], by rw [mI_At, if_neg (by decide), h2]⟩
theorem K_core (hz : a + 31 ≤ z) (hpz : p + 2 ≤ z) (hpa : p < a ∨ a + 31 ≤ p) (hb : z ≤ b) (hX : TdC X) (hc : c ≤ 40) (hst : st < 40) (hst2 : st2 < 40) (h : RI (lc M a) f n dl bal lv t B wl al (f, l, f) Ln) (ht : t ≤ 9999) (hG : ∀ i b', i < 40 → ¬ i = kI c st → F i = some b' → z ≤ b' ∧ (b + 31 ≤ b' ∨ b' + 31 ≤ b)) (hF1 : F' (kI c st) = some b) (hF2 : ∀ i, ¬ i = kI c st → F' i = F i) (hK : KpR M F K st st2 c n dl bal lv B) :
    KpR (gl (pKeep M p c st) b 31 (rCopy X (lc (pKeep M p c st) a))) F' (cpF f K 0 (1922 * kI c st2) 1922) (kS c st) (kS c st2) (kC c) n dl bal lv B := fun i hi => by
  rcases k_step hc hst hst2 hi with ⟨e1, e2⟩ | ⟨i0, k1, k2, k3, k4, k5⟩
  · rw [e1, e2]
    refine ⟨b, t, wl, al, l, Ln, hF1, ht, S_anchor (g := f) ?_⟩
    · exact (h.sm (pKeep_sm hpa)).cp hX (fun j hj => by
        show cpF f K 0 (1922 * kI c st2) 1922 (1922 * kI c st2 + j) = f j
        rw [cpF_in hj, Nat.zero_add])
  · rw [k2, k4]
    obtain ⟨b', t', wl', al', l', Ln', q1, q2, q3⟩ := hK i0 k1
    obtain ⟨g1, g2⟩ := hG _ b' (Nat.mod_lt _ (by decide)) k3 q1
    have hs : Sm M (gl (pKeep M p c st) b 31 (rCopy X (lc (pKeep M p c st) a))) b' 31 := (pKeep_sm (by omega)).tr (Sm_gl (by omega))
    refine ⟨b', t', wl', al', l', Ln', (hF2 _ k3).trans q1, q2, S_anchor (g := fun j => K (1922 * ((st2 + i0) % 40) + j)) ?_⟩
    · exact q3.ext (Agr_of hs.lc1 hs.lc2) (hs.td q3.td) (fun j hj => cpF_o (by
        generalize (st2 + i0) % 40 = u at k5 ⊢
        generalize kI c st2 = w at k5 ⊢
        omega))
end
