/-! ONE MORE IS KEPT: the class's heap after it -/
def ShX (sh sh' : List sE) (p : Nat) : Prop := ∀ x s, shp sh x = some s → ¬ x = p + 1 → shp sh' x = some s
theorem ShX.row {sh sh' : List sE} {p a : Nat} {e : aE} (h : ShX sh sh' p) (hp : shp sh (p + 1) = some (.inr (.inr e))) (ha : RowSh sh a) : RowSh sh' a := fun k hk => h _ _ (ha k hk) (fun q => by
  have h1 := ha k hk
  rw [q, hp] at h1
  exact rowE_ne a k e (Option.some.inj h1).symm)
theorem ShX.mod {sh sh' : List sE} {p a : Nat} {e : aE} (h : ShX sh sh' p) (hp : shp sh (p + 1) = some (.inr (.inr e))) (ha : ModSh sh a) : ModSh sh' a := fun k hk => h _ _ (ha k hk) (fun q => by
  have h1 := ha k hk
  rw [q, hp] at h1
  exact modE_ne a k e (Option.some.inj h1).symm)
theorem ShX.bus {sh sh' : List sE} {q s tp sr a p o dr rf kk : Nat} {e : aE} (h : ShX sh sh' q) (hp : shp sh (q + 1) = some (.inr (.inr e))) (hb : BusSh sh s tp sr a p o dr rf kk) : BusSh sh' s tp sr a p o dr rf kk :=
  ⟨h _ _ hb.1 (fun z => by have h1 := hb.1; rw [z, hp] at h1; cases h1), h _ _ hb.2 (fun z => by have h1 := hb.2; rw [z, hp] at h1; cases h1)⟩
/-! how much lies in the heap -/
def s_sz (s : sE) : Nat := match s with
  | .inl (_, fl) => fl.length
  | .inr (.inl (_, n)) => n
  | .inr (.inr e) => e_sz e
def hzS (sh : List sE) : Nat := (sh.map s_sz).sum
theorem hzS_app (s t : List sE) : hzS (s ++ t) = hzS s + hzS t := by simp [hzS]
theorem hzS_row (b : Nat) : hzS (rowS b) = 2215 := by
  unfold hzS rowS
  rw [List.map_map, show List.range 31 = [0, 1, 2, 3, 4, 5, 6, 7, 8, 9, 10, 11, 12, 13, 14, 15, 16, 17, 18, 19, 20, 21, 22, 23, 24, 25, 26, 27, 28, 29, 30] from by decide]
  simp only [List.map_cons, List.map_nil, Function.comp, rowE, s_sz, List.length_cons, List.length_nil, List.sum_cons, List.sum_nil, Nat.reduceAdd]
theorem hzS_set {sh : List sE} {i : Nat} {s s' : sE} (hi : sh[i]? = some s) (hs : s_sz s' = s_sz s) : hzS (sh.set i s') = hzS sh := by
  unfold hzS
  congr 1
  apply List.ext_getElem?
  intro j
  rw [List.getElem?_map, List.getElem?_map, List.getElem?_set]
  have hl := (List.getElem?_eq_some_iff.mp hi).1
  by_cases hj : i = j
  · subst hj
    rw [if_pos rfl, if_pos hl, hi]
    simp [hs]
  · simp [hj]
/-- a row more is kept: in an old place, or in a new one -/
def GrK (sh : List sE) (F : Nat → Option Nat) (sh' : List sE) (F' : Nat → Option Nat) : Prop := (sh' = sh ∧ F' = F) ∨ (sh'.length = sh.length + 31 ∧ hzS sh' = hzS sh + 2215 ∧ ∃ i b, i < 40 ∧ F i = none ∧ F' = va_up F i (some b))
section
variable {sc : aS} {d : Nat} {sh : List sE} {M : aM} {a p z : Nat} {F : Nat → Option Nat} {f K : Nat → Int32} {n dl bal lv t B c st st2 : Nat} {wl : Nat → List Sg} {al l : List (Nat → Int32)} {Ln : Nat → List (Option Se)}
theorem S_keep (hp : PastSh sh p F) (hA : RowSh sh a) (hG : Geo sh M F z) (hzl : z ≤ 32 + sh.length) (hz : a + 31 ≤ z) (hpz : p + 2 ≤ z) (hpa : p < a ∨ a + 31 ≤ p) (hc : c ≤ 40) (hst : st < 40) (hst2 : st2 < 40) (h1 : M.1 p 1 = nI c) (h2 : M.1 p 2 = nI st) (h : RI (lc M a) f n dl bal lv t B wl al (f, l, f) Ln) (ht : t ≤ 9999) (hK : KpR M F K st st2 c n dl bal lv B) :
    ∃ sh' M' F', evp sc (d + 3) 53 0 [(0, .ref p), (1, .ref a)] [] (mk sh M) = some (none, mk sh' M') ∧ PastSh sh' p F' ∧ Geo sh' M' F' z ∧ sh.length ≤ sh'.length ∧ ShX sh sh' p ∧ (∀ x, x < z → (¬ x = p → M'.1 x = M.1 x) ∧ M'.2.1 x = M.2.1 x) ∧ M'.2.2 = M.2.2 ∧ M'.1 p 1 = nI (kC c) ∧ M'.1 p 2 = nI (kS c st) ∧ KpR M' F' (cpF f K 0 (1922 * kI c st2) 1922) (kS c st) (kS c st2) (kC c) n dl bal lv B ∧ (∀ x, z ≤ x → x < 32 + sh.length → (∀ i b, i < 40 → F i = some b → x < b ∨ b + 31 ≤ x) → M'.1 x = M.1 x ∧ M'.2.1 x = M.2.1 x) ∧ (∀ i b, i < 40 → F' i = some b → F i = some b ∨ 32 + sh.length ≤ b) ∧ GrK sh F sh' F' := by
  have hI := kI_eq hc hst
  have hq : kI c st < 40 := kI_lt hst
  obtain ⟨j1, j2⟩ := pKeep_1 h1 h2 hc
  have hlow : ∀ (X : aM) (b : Nat), z ≤ b → ∀ x, x < z → (¬ x = p → (gl (pKeep M p c st) b 31 X).1 x = M.1 x) ∧ (gl (pKeep M p c st) b 31 X).2.1 x = M.2.1 x := fun X b hb x hx => by
    refine ⟨fun q => ?_, ?_⟩
    · have e : (gl (pKeep M p c st) b 31 X).1 x = (pKeep M p c st).1 x := funext (fun j => gl_Io (by omega))
      rw [e]
      exact (pKeep_sm (n := 1) (b := x) (by omega) x (Nat.le_refl _) (by omega)).1
    · rw [gl_Ao (by omega)]
      unfold pKeep
      split <;> rfl
  have hJ : ∀ (X : aM) (b : Nat), (gl (pKeep M p c st) b 31 X).2.2 = M.2.2 := fun X b => by
    show (pKeep M p c st).2.2 = M.2.2
    unfold pKeep
    split <;> rfl
  have hp1 : ∀ (X : aM) (b j : Nat), z ≤ b → (gl (pKeep M p c st) b 31 X).1 p j = (pKeep M p c st).1 p j := fun X b j hb => gl_Io (by omega)
  have hup : ∀ (X : aM) (b : Nat), ∀ x, z ≤ x → (x < b ∨ b + 31 ≤ x) → (gl (pKeep M p c st) b 31 X).1 x = M.1 x ∧ (gl (pKeep M p c st) b 31 X).2.1 x = M.2.1 x := fun X b x hx hb => by
    have e1 : (gl (pKeep M p c st) b 31 X).1 x = (pKeep M p c st).1 x := funext (fun j => gl_Io (by omega))
    have e2 := pKeep_sm (M := M) (p := p) (c := c) (st := st) (n := 1) (b := x) (by omega) x (Nat.le_refl _) (by omega)
    exact ⟨e1.trans e2.1, (gl_Ao (by omega)).trans e2.2⟩
  cases hF : F (kI c st) with
  | some b =>
    obtain ⟨g1, g2, g3⟩ := hG.1 _ b hq hF
    have hsm : Sm M (pKeep M p c st) b 31 := pKeep_sm (by omega)
    have e := K_old (sc := sc) (d := d) (a := a) hp hc hst h1 h2 (by rw [← hI]; exact hF) hA g2 (by omega)
    have hoth : ∀ i b', i < 40 → ¬ i = kI c st → F i = some b' → z ≤ b' ∧ (b + 31 ≤ b' ∨ b' + 31 ≤ b) := fun i b' hi ne hb' => ⟨(hG.1 i b' hi hb').1, hG.2 _ _ _ _ hq hi (fun q => ne q.symm) hF hb'⟩
    refine ⟨_, _, F, e, hp, ⟨fun i b' hi hb' => ?_, hG.2⟩, Nat.le_refl _, fun x s hs _ => hs, hlow _ b g1, hJ _ b, ?_, ?_, K_core hz hpz hpa g1 (hsm.td g3) hc hst hst2 h ht hoth hF (fun _ _ => rfl) hK, fun x h1 h2 h3 => hup _ b x h1 (h3 _ b hq hF), fun i b' _ h => Or.inl h, Or.inl ⟨rfl, rfl⟩⟩
    · obtain ⟨r1, r2, r3⟩ := hG.1 i b' hi hb'
      refine ⟨r1, r2, ?_⟩
      by_cases ei : i = kI c st
      · subst ei
        rw [hF] at hb'
        cases hb'
        exact TdC_of (rCopy_td _ _ (hsm.td g3)) (gl1 _ _ _)
      · have := (hoth i b' hi ei hb').2
        exact ((pKeep_sm (by omega)).tr (Sm_gl (by omega))).td r3
    · rw [hp1 _ b 1 g1]; exact j1
    · rw [hp1 _ b 2 g1]; exact j2
  | none =>
    have e := K_new (sc := sc) (d := d) (a := a) hp hc hst h1 h2 (by rw [← hI]; exact hF) hA
    rw [← hI] at e
    have hN := RowSh_new sh
    have hx : shp (sh ++ rowS (32 + sh.length)) (p + 1) = some (.inr (.inr (.inl (3, 40, .inr (.inr F))))) := (hp.app (t := rowS (32 + sh.length))).2
    have hv : ∀ i, ¬ i = kI c st → va_up F (kI c st) (some (32 + sh.length)) i = F i := fun i q => by simp [va_up, q]
    have hv1 : va_up F (kI c st) (some (32 + sh.length)) (kI c st) = some (32 + sh.length) := by simp [va_up]
    have hfar : ∀ i b', i < 40 → F i = some b' → b' + 31 ≤ 32 + sh.length := fun i b' hi hb' => by
      have := shp_ge ((hG.1 i b' hi hb').2.1 30 (by decide))
      omega
    have hX : ShX sh ((sh ++ rowS (32 + sh.length)).set (p + 1 - 32) (.inr (.inr (.inl (3, 40, .inr (.inr (va_up F (kI c st) (some (32 + sh.length))))))))) p := fun x s hs hne => shp_set_o (shp_ge hx).1 (shp_app hs) hne
    refine ⟨_, _, va_up F (kI c st) (some (32 + sh.length)), e, (hp.app (t := rowS (32 + sh.length))).set _, ⟨fun i b' hi hb' => ?_, fun i j b1 b2 hi hj hij e1 e2 => ?_⟩, ?_, hX, hlow _ _ hzl, hJ _ _, ?_, ?_, K_core hz hpz hpa hzl TdC_00 hc hst hst2 h ht (fun i b' hi ne hb' => ⟨(hG.1 i b' hi hb').1, Or.inr (hfar i b' hi hb')⟩) hv1 hv hK, fun x h1 h2 h3 => hup _ _ x h1 (Or.inl h2), fun i b' hi h => ?_, Or.inr ⟨?_, ?_, kI c st, 32 + sh.length, hq, hF, rfl⟩⟩
    · by_cases ei : i = kI c st
      · rw [ei, hv1] at hb'
        cases hb'
        exact ⟨hzl, hN.set hx, TdC_of (rCopy_td _ _ TdC_00) (gl1 _ _ _)⟩
      · rw [hv i ei] at hb'
        obtain ⟨r1, r2, r3⟩ := hG.1 i b' hi hb'
        have := hfar i b' hi hb'
        exact ⟨r1, hX.row hp.2 r2, ((pKeep_sm (by omega)).tr (Sm_gl (by omega))).td r3⟩
    · by_cases ei : i = kI c st
      · rw [ei, hv1] at e1
        cases e1
        rw [hv j (fun q => hij (ei.trans q.symm))] at e2
        exact Or.inr (hfar j b2 hj e2)
      · rw [hv i ei] at e1
        by_cases ej : j = kI c st
        · rw [ej, hv1] at e2
          cases e2
          exact Or.inl (hfar i b1 hi e1)
        · rw [hv j ej] at e2
          exact hG.2 _ _ _ _ hi hj hij e1 e2
    · rw [List.length_set, List.length_append]; omega
    · rw [hp1 _ _ 1 hzl]; exact j1
    · rw [hp1 _ _ 2 hzl]; exact j2
    · by_cases ei : i = kI c st
      · rw [ei, hv1] at h
        cases h
        exact Or.inr (Nat.le_refl _)
      · rw [hv i ei] at h
        exact Or.inl h
    · rw [List.length_set, List.length_append]
      rfl
    · have hx' := hx
      unfold shp at hx'
      cases hb : Nat.blt (p + 1) 32 with
      | true => rw [hb] at hx'; cases hx'
      | false =>
        rw [hb] at hx'
        simp only [cond_false] at hx'
        refine (hzS_set hx' (by rfl)).trans ?_
        rw [hzS_app, hzS_row]
end
