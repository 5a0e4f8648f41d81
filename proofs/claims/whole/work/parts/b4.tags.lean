/-! FIRST COME: what is late, told by those who wait now -/
def tgA (z : Nat → Int32) : Tg := (z 0, (z 1).toNatClampNeg, (z 2).toNatClampNeg, z 4)
def tgW (s : Nat) (x : Sg) : Tg := (x.1, s, x.2.1, nI x.2.2.1)
theorem CW_pos {p : Tg → Bool} {wl : Nat → List Sg} (h : 1 ≤ CW p wl) : ∃ s x, s < 8 ∧ x ∈ wl s ∧ p (tgW s x) = true := by
  have key : ∀ s, 1 ≤ cw p s (wl s) → ∃ x, x ∈ wl s ∧ p (tgW s x) = true := fun s q => by
    obtain ⟨x, q1, q2⟩ := List.countP_pos_iff.mp q
    exact ⟨x, q1, q2⟩
  unfold CW at h
  rcases (show 1 ≤ cw p 0 (wl 0) ∨ 1 ≤ cw p 1 (wl 1) ∨ 1 ≤ cw p 2 (wl 2) ∨ 1 ≤ cw p 3 (wl 3) ∨ 1 ≤ cw p 4 (wl 4) ∨ 1 ≤ cw p 5 (wl 5) ∨ 1 ≤ cw p 6 (wl 6) ∨ 1 ≤ cw p 7 (wl 7) by omega) with q | q | q | q | q | q | q | q <;>
  · obtain ⟨x, q1, q2⟩ := key _ q
    exact ⟨_, x, by decide, q1, q2⟩
theorem CW_ge {p : Tg → Bool} {wl : Nat → List Sg} {s : Nat} {x : Sg} (hs : s < 8) (hx : x ∈ wl s) (hp : p (tgW s x) = true) : 1 ≤ CW p wl := by
  have key : 1 ≤ cw p s (wl s) := List.countP_pos_iff.mpr ⟨x, hx, hp⟩
  unfold CW
  rcases (show s = 0 ∨ s = 1 ∨ s = 2 ∨ s = 3 ∨ s = 4 ∨ s = 5 ∨ s = 6 ∨ s = 7 by omega) with rfl | rfl | rfl | rfl | rfl | rfl | rfl | rfl <;> omega
theorem cw_sp (p r : Tg → Bool) (s : Nat) (l : List Sg) : cw p s l = cw (fun z => p z && r z) s l + cw (fun z => p z && !r z) s l := by
  unfold cw
  induction l with
  | nil => rfl
  | cons x l ih =>
    rw [List.countP_cons, List.countP_cons, List.countP_cons, ih]
    have key : ∀ (a b : Bool) (m k : Nat), m + k + (if a = true then 1 else 0) = m + (if (a && b) = true then 1 else 0) + (k + (if (a && !b) = true then 1 else 0)) := by
      intro a b m k
      cases a <;> cases b <;> simp <;> omega
    exact key _ _ _ _
theorem CW_sp (p r : Tg → Bool) (wl : Nat → List Sg) : CW p wl = CW (fun z => p z && r z) wl + CW (fun z => p z && !r z) wl := by
  unfold CW
  rw [cw_sp p r 0, cw_sp p r 1, cw_sp p r 2, cw_sp p r 3, cw_sp p r 4, cw_sp p r 5, cw_sp p r 6, cw_sp p r 7]
  omega
theorem ceO_sp (p r : Tg → Bool) (x : Option Se) : ceO p x = ceO (fun z => p z && r z) x + ceO (fun z => p z && !r z) x := by
  cases x with
  | none => rfl
  | some e =>
    show ce p e = ce (fun z => p z && r z) e + ce (fun z => p z && !r z) e
    unfold ce
    have key : ∀ (a b : Bool) (u : Nat), (if a = true then u else 0) = (if (a && b) = true then u else 0) + (if (a && !b) = true then u else 0) := by
      intro a b u
      cases a <;> cases b <;> simp
    exact key _ _ _
theorem cl_sp (p r : Tg → Bool) (L : List (Option Se)) : cl p L = cl (fun z => p z && r z) L + cl (fun z => p z && !r z) L := by
  unfold cl
  induction L with
  | nil => rfl
  | cons x l ih =>
    rw [List.map_cons, List.map_cons, List.map_cons, List.sum_cons, List.sum_cons, List.sum_cons, ih, ceO_sp p r x]
    omega
theorem CN_sp (p r : Tg → Bool) (Ln : Nat → List (Option Se)) : CN p Ln = CN (fun z => p z && r z) Ln + CN (fun z => p z && !r z) Ln := by
  unfold CN
  rw [cl_sp p r (Ln 0), cl_sp p r (Ln 1), cl_sp p r (Ln 2), cl_sp p r (Ln 3), cl_sp p r (Ln 4), cl_sp p r (Ln 5), cl_sp p r (Ln 6), cl_sp p r (Ln 7), cl_sp p r (Ln 8), cl_sp p r (Ln 9), cl_sp p r (Ln 10), cl_sp p r (Ln 11), cl_sp p r (Ln 12), cl_sp p r (Ln 13)]
  omega
theorem CW_ff (wl : Nat → List Sg) : CW (fun _ => false) wl = 0 := by
  have e : ∀ s (l : List Sg), cw (fun _ => false) s l = 0 := fun s l => by
    unfold cw
    exact List.countP_eq_zero.mpr (fun _ _ q => Bool.noConfusion q)
  unfold CW
  simp only [e]
section
variable {nws : List (List (Nat → Int32))} {wl : Nat → List Sg} {Ln : Nat → List (Option Se)} {v : Int32} {l : Nat → Int32}
theorem fc_wf (hca : ∀ p, ca p nws.flatten ≤ LV p wl (mkLn Ln) none) {z : Nat → Int32} (hz : z ∈ nws.flatten) : wfA z = true := by
  have h := hca (fun _ => false)
  have e0 : LV (fun _ => false) wl (mkLn Ln) none = 0 := by
    show CW _ wl + CN _ (mkLn Ln) + 0 = 0
    rw [CW_ff, CN_ff]
  rw [e0] at h
  cases hw : wfA z with
  | true => rfl
  | false =>
    have : 1 ≤ ca (fun _ => false) nws.flatten := List.countP_pos_iff.mpr ⟨z, hz, by simp [hw]⟩
    omega
theorem ca_ge {p : Tg → Bool} {L : List (Nat → Int32)} {z : Nat → Int32} (hz : z ∈ L) (hp : p (tgA z) = true) : 1 ≤ ca p L := List.countP_pos_iff.mpr ⟨z, hz, by
  show (p (tgA z) || !wfA z) = true
  rw [hp]
  rfl⟩
theorem fc_src (hca : ∀ p, ca p nws.flatten ≤ LV p wl (mkLn Ln) none) {z : Nat → Int32} {k : Nat} (hz : z ∈ nws.flatten) (hk : kd z = some k) : ∃ s x, s < 8 ∧ x ∈ wl s ∧ tgW s x = tgA z := by
  have h := hca (fun y => decide (y = tgA z))
  have h1 : 1 ≤ ca (fun y => decide (y = tgA z)) nws.flatten := ca_ge hz (decide_eq_true rfl)
  have e : unl (fun y => decide (y = tgA z)) = fun _ => false := by
    funext y
    unfold unl
    apply decide_eq_false
    intro q
    have e4 : (-1 : Int32) = z 4 := congrArg (fun y : Tg => y.2.2.2) q
    unfold kd at hk
    rw [← e4, if_neg (by decide)] at hk
    cases hk
  have e2 : LV (fun y => decide (y = tgA z)) wl (mkLn Ln) none = CW (fun y => decide (y = tgA z)) wl := by
    show CW _ wl + CN _ (mkLn Ln) + 0 = _
    rw [CN_mk, e, CN_ff]
    rfl
  obtain ⟨s, x, q1, q2, q3⟩ := CW_pos (show 1 ≤ CW (fun y => decide (y = tgA z)) wl by omega)
  exact ⟨s, x, q1, q2, of_decide_eq_true q3⟩
theorem fc_one (hca : ∀ p, ca p nws.flatten ≤ LV p wl (mkLn Ln) none) (hU : Uq v wl Ln) (N : Int32) : nws.flatten.countP (fun x => decide (x 0 = N)) ≤ 1 := by
  have h := hca (nmb N)
  have e : LV (nmb N) wl (mkLn Ln) none = LV (nmb N) wl Ln none := by
    unfold LV
    rw [CN_mk]
    rfl
  have h1 := (hU N).1
  have h2 : nws.flatten.countP (fun x => decide (x 0 = N)) ≤ ca (nmb N) nws.flatten := List.countP_mono_left (fun x _ hx => by
    show (decide (x 0 = N) || !wfA x) = true
    rw [hx]
    rfl)
  omega
theorem fc_tag (hca : ∀ p, ca p nws.flatten ≤ LV p wl (mkLn Ln) none) (hU : Uq v wl Ln) {z : Nat → Int32} {s : Nat} {x : Sg} (hz : z ∈ nws.flatten) (hs : s < 8) (hx : x ∈ wl s) (e : z 0 = x.1) : tgA z = tgW s x := by
  have h := hca (fun y => nmb x.1 y && !decide (y = tgW s x))
  have h1 := (hU x.1).1
  have e1 : LV (nmb x.1) wl Ln none = LV (nmb x.1) wl (mkLn Ln) none := by
    unfold LV
    rw [CN_mk]
    rfl
  have e2 : LV (nmb x.1) wl (mkLn Ln) none = LV (fun y => nmb x.1 y && decide (y = tgW s x)) wl (mkLn Ln) none + LV (fun y => nmb x.1 y && !decide (y = tgW s x)) wl (mkLn Ln) none := by
    show CW _ wl + CN _ (mkLn Ln) + 0 = CW _ wl + CN _ (mkLn Ln) + 0 + (CW _ wl + CN _ (mkLn Ln) + 0)
    rw [CW_sp (nmb x.1) (fun y => decide (y = tgW s x)), CN_sp (nmb x.1) (fun y => decide (y = tgW s x))]
    omega
  have h2 : 1 ≤ CW (fun y => nmb x.1 y && decide (y = tgW s x)) wl := CW_ge hs hx (by
    show (decide (x.1 = x.1) && decide (tgW s x = tgW s x)) = true
    rw [decide_eq_true rfl, decide_eq_true rfl]
    rfl)
  have h3 : CW (fun y => nmb x.1 y && decide (y = tgW s x)) wl ≤ LV (fun y => nmb x.1 y && decide (y = tgW s x)) wl (mkLn Ln) none := by
    unfold LV
    omega
  by_cases q : tgA z = tgW s x
  · exact q
  · have : 1 ≤ ca (fun y => nmb x.1 y && !decide (y = tgW s x)) nws.flatten := ca_ge hz (by
      show (decide (z 0 = x.1) && !decide (tgA z = tgW s x)) = true
      rw [decide_eq_true e, decide_eq_false q]
      rfl)
    omega
theorem fc_kd {z : Nat → Int32} {s : Nat} {x : Sg} (hw : wfA z = true) (e : tgA z = tgW s x) (hs : s < 8) (h1 : x.2.1 < 8) (h2 : x.2.2.1 < 3) : kd z = some (3 * bs s x.2.1 + x.2.2.1) := by
  obtain ⟨w1, w2⟩ := of_decide_eq_true hw
  have e1 : (z 1).toNatClampNeg = s := congrArg (fun y : Tg => y.2.1) e
  have e2 : (z 2).toNatClampNeg = x.2.1 := congrArg (fun y : Tg => y.2.2.1) e
  have e4 : z 4 = nI x.2.2.1 := congrArg (fun y : Tg => y.2.2.2) e
  rw [e1] at w1
  rw [e2] at w2
  unfold kd bs
  rw [w1, w2, e4, if_pos ⟨nI_le (a := 0) (by omega) (by omega), nI_lt (b := 3) h2 (by decide)⟩, cl_nI h2 (by decide)]
  by_cases q : x.2.1 ≤ s
  · rw [if_pos (nI_le q (by omega)), if_pos q]
  · rw [if_neg (nI_ge (by omega) (by omega)), if_neg q]
/-- one that came first comes later -/
def FcB (nws : List (List (Nat → Int32))) (s1 : Nat) (x : Sg) (s2 : Nat) (y : Sg) : Prop := x.1 < y.1 ∧ x.2.2.1 = y.2.2.1 ∧ bs s1 x.2.1 = bs s2 y.2.1 ∧ ∃ i j, ixN x.1 nws = some j ∧ ixN y.1 nws = some i ∧ i < j
theorem fc_iff (hca : ∀ p, ca p nws.flatten ≤ LV p wl (mkLn Ln) none) (hU : Uq v wl Ln) (hw : ∀ s x, s < 8 → x ∈ wl s → 0 < x.1 ∧ x.2.2.1 < 3 ∧ x.2.1 < 8) (hl : ∀ k, k < 6 → l k = 0) : cR l nws = false ↔ ∃ s1 x s2 y, s1 < 8 ∧ s2 < 8 ∧ x ∈ wl s1 ∧ y ∈ wl s2 ∧ FcB nws s1 x s2 y := by
  have h0 : ∀ z k, z ∈ nws.flatten → kd z = some k → 0 ≤ z 0 := fun z k hz hk => by
    obtain ⟨s, x, q1, q2, q3⟩ := fc_src hca hz hk
    have e : x.1 = z 0 := congrArg (fun y : Tg => y.1) q3
    rw [← e]
    exact Int32.le_of_lt (hw s x q1 q2).1
  rw [cR_iff nws l [] (fun k hk => ⟨fun y hy => (by cases hy), Or.inl (hl k hk)⟩) h0, Lts_iff]
  constructor
  · rintro ⟨j, z, y, a1, ⟨k, b1, b2, b3⟩, c | ⟨i, c1, c2⟩⟩
    · cases c
    · obtain ⟨s1, x1, p1, p2, p3⟩ := fc_src hca (at1_mem a1) b1
      obtain ⟨s2, x2, r1, r2, r3⟩ := fc_src hca (at1_mem c2) b2
      have e1 : x1.1 = z 0 := congrArg (fun y : Tg => y.1) p3
      have e2 : x2.1 = y 0 := congrArg (fun y : Tg => y.1) r3
      obtain ⟨-, u1, u2⟩ := hw s1 x1 p1 p2
      obtain ⟨-, u3, u4⟩ := hw s2 x2 r1 r2
      have k1 := fc_kd (fc_wf hca (at1_mem a1)) p3.symm p1 u2 u1
      have k2 := fc_kd (fc_wf hca (at1_mem c2)) r3.symm r1 u4 u3
      rw [b1] at k1
      rw [b2] at k2
      have k3 : 3 * bs s1 x1.2.1 + x1.2.2.1 = 3 * bs s2 x2.2.1 + x2.2.2.1 := Option.some.inj (k1.symm.trans k2)
      refine ⟨s1, x1, s2, x2, p1, r1, p2, r2, by rw [e1, e2]; exact b3, by omega, by omega, i, j, ?_, ?_, c1⟩
      · exact ixN_of a1 e1.symm (fc_one hca hU _)
      · exact ixN_of c2 e2.symm (fc_one hca hU _)
  · rintro ⟨s1, x, s2, y, p1, p2, p3, p4, b1, b2, b3, i, j, b4, b5, b6⟩
    obtain ⟨z, z1, z2⟩ := ixN_some b4
    obtain ⟨w, w1, w2⟩ := ixN_some b5
    obtain ⟨-, u1, u2⟩ := hw s1 x p1 p3
    obtain ⟨-, u3, u4⟩ := hw s2 y p2 p4
    have k1 := fc_kd (fc_wf hca (at1_mem z1)) (fc_tag hca hU (at1_mem z1) p1 p3 z2) p1 u2 u1
    have k2 := fc_kd (fc_wf hca (at1_mem w1)) (fc_tag hca hU (at1_mem w1) p2 p4 w2) p2 u4 u3
    refine ⟨j, z, w, z1, ⟨_, k1, by rw [k2, b2, b3], by rw [z2, w2]; exact b1⟩, Or.inr ⟨i, b6, w1⟩⟩
end
