/-! reads and writes of the heap -/
theorem e_c_inv {h : aH} {a : Nat} {e : aE} (he : e_c h a = some e) : ∃ i : Nat, a = 32 + i ∧ a - 32 = i ∧ h[i]? = some e := by
  unfold e_c at he
  cases hb : Nat.blt a 32 with
  | true => rw [hb] at he; cases he
  | false =>
    rw [hb] at he
    have h1 : ¬ a < 32 := fun q => by rw [Nat.blt_eq.mpr q] at hb; cases hb
    exact ⟨a - 32, by omega, rfl, he⟩
theorem e_arr_inv {sc : aS} {h : aH} {a tc : Nat} {q : aS} (he : e_arr sc h a tc = some q) : (tc = 0 ∧ e_ro sc a = some q) ∨ ∃ i : Nat, a = 32 + i ∧ a - 32 = i ∧ h[i]? = some (.inl (tc, q.1, .inl q.2)) := by
  unfold e_arr at he
  cases hb : Nat.blt a 32 with
  | true =>
    rw [hb] at he
    cases ht : Nat.beq tc 0 with
    | true => rw [ht] at he; exact Or.inl ⟨Nat.eq_of_beq_eq_true ht, he⟩
    | false => rw [ht] at he; cases he
  | false =>
    rw [hb] at he
    have h1 : ¬ a < 32 := fun q => by rw [Nat.blt_eq.mpr q] at hb; cases hb
    simp only [cond_false] at he
    split at he
    · rename_i t n f hh
      cases ht : Nat.beq t tc with
      | true =>
        rw [ht] at he
        have e1 := Nat.eq_of_beq_eq_true ht
        subst e1
        cases he
        exact Or.inr ⟨a - 32, by omega, rfl, hh⟩
      | false => rw [ht] at he; cases he
    · cases he
theorem va_P.one {D : va_G} {cl : List vw_C} {q : Nat × va_E} {H : Heap} (h : va_at D cl q H) : va_P D cl [q] H := by
  intro k x hx
  have hz : k < 1 := (List.getElem?_eq_some_iff.mp hx).1
  rw [show k = 0 by omega] at hx
  cases hx
  exact h
theorem ckF_inv {own : String} {ix y : Nat} {T : u_T} {ws : List Nat} (h : ckF own ix y T ws = true) : Cond.fieldLink own ix (T y).1 (T y).2.1 (T y).2.2.1 ∈ gt ∨ Cond.fieldLinkNest own ix (T y).1 (T y).2.1 (T y).2.2.1 "SlotBuses" ∈ gt := by
  unfold ckF at h
  split at h
  · exact Or.inl (ckW_mem h)
  · exact Or.inr (ckW_mem h)
  · cases h
/-- the classes' tables: checked by the kernel -/
noncomputable def ckC (ci : Nat) : Bool := match pCl[ci]? with
  | some (C, T, N) => (u_ws C T N).all (fun w => decide (w ∈ gt)) && (List.range N).all (fun a => (List.range N).all (fun b => Nat.beq a b || decide ((T a).2.1 ≠ (T b).2.1))) && (List.range N).all (fun k => decide (parseFieldDescriptor (T k).2.2.1 = some (pTy ci k)) && decide (defaultValue (pTy ci k) = vp_V (pF ci) k)) && decide ((pF ci).length = N)
  | none => true
theorem ckC_all : (List.range 14).all ckC = true := by decide +kernel
theorem ckC_of (ci : Nat) : ckC ci = true := by
  by_cases h : ci < 14
  · exact List.all_eq_true.mp ckC_all ci (List.mem_range.mpr h)
  · unfold ckC
    rw [List.getElem?_eq_none (by show 14 ≤ ci; omega)]
theorem pC_in {ci : Nat} {C : String} {T : u_T} {N : Nat} (hc : pCl[ci]? = some (C, T, N)) : (∀ w ∈ u_ws C T N, w ∈ gt) ∧ (∀ a, a < N → ∀ b, b < N → a ≠ b → (T a).2.1 ≠ (T b).2.1) ∧ (∀ k, k < N → parseFieldDescriptor (T k).2.2.1 = some (pTy ci k)) ∧ (∀ k, k < N → defaultValue (pTy ci k) = vp_V (pF ci) k) ∧ (pF ci).length = N := by
  have h := ckC_of ci
  unfold ckC at h
  rw [hc] at h
  simp only [Bool.and_eq_true, List.all_eq_true, decide_eq_true_eq, List.mem_range, Bool.or_eq_true] at h
  obtain ⟨⟨⟨h1, h2⟩, h3⟩, h4⟩ := h
  refine ⟨h1, fun a ha b hb hab => ?_, fun k hk => (h3 k hk).1, fun k hk => (h3 k hk).2, h4⟩
  rcases h2 a ha b hb with q | q
  · exact absurd (Nat.eq_of_beq_eq_true q) hab
  · exact q
theorem e_fit_ok {g : Nat → Nat} {ty : FieldType} {v : Value} (h : e_fit ty v = true) : narrow ty (cv g v) = cv g v ∧ fits ty (cv g v) = true := by
  unfold e_fit at h
  split at h
  · exact ⟨rfl, rfl⟩
  · exact ⟨rfl, rfl⟩
  · rename_i v
    simp only [Bool.or_eq_true, beq_iff_eq] at h
    rcases h with rfl | rfl
    · exact ⟨rfl, rfl⟩
    · exact ⟨rfl, rfl⟩
  · exact ⟨rfl, rfl⟩
  · exact ⟨rfl, rfl⟩
  · exact ⟨rfl, rfl⟩
  · exact ⟨rfl, rfl⟩
  · cases h
section HEAP
variable {p : Program} {l : Launch} {e : Env} {R : Room} {s : State} {m : MethodId} {args : Array Value} {below : List Frame} {meth : Method} {c : Code} {H : Heap} {locs : List Loc} {cells slots : Nat} {Q : State → Prop}
variable {ls : Array Slot} {mid pc x y : Nat} {g : Nat → Nat} {i : Instr} {ws : List Nat} {S S' : List Value}
variable {TX : State → Prop} {z0 : Nat} {D : va_G} {dT : Nat → ClassId} {sc : aS} {h h' : aH}
theorem snd_rd (C0 : Cx mid p s m args meth c) (hw : Wd TX z0 g D dT sc s) (hg : ∀ i, g (32 + i) = z0 + i) (hS : va_S (fun q => z0 ≤ q) s.heap H locs) (hR : Rp z0 g D dT h H) (hd : decode (pB mid) pc = .ok (i, e_len i)) (hk : ckX mid pc i x y ws = true) (he : e_rd sc i x y S h = some S')
    (kk : W p l e R s m args below meth c H locs cells slots Q (F0 m (pc + e_len i) ls (S'.map (cv g)))) : W p l e R s m args below meth c H locs cells slots Q (F0 m pc ls (S.map (cv g))) := by
  obtain ⟨hx, hb, hr, hlocks, hml, hown, hts, hin0⟩ := C0
  obtain ⟨hK, hz0, hAO, hRO, hSt, hTxt, hTX⟩ := hw
  unfold e_rd at he
  split at he
  · rename_i ix
    split at he
    · rename_i a r
      split at he
      · rename_i ci fs hc0
        obtain ⟨j, rfl, -, hj⟩ := e_c_inv hc0
        cases hcx : Nat.beq ci x with
        | false => rw [hcx] at he; cases he
        | true =>
          rw [hcx] at he
          have e1 := Nat.eq_of_beq_eq_true hcx
          subst e1
          obtain ⟨v, hv, hS'⟩ := Option.map_eq_some_iff.mp he
          subst hS'
          have hk' : (match pCl[ci]? with
            | some (_, T, N) => Nat.blt y N && ckF (pY mid).cls ix y T ws
            | none => false) = true := hk
          cases hcl : pCl[ci]? with
          | none => rw [hcl] at hk'; cases hk'
          | some q =>
            obtain ⟨C, T, N⟩ := q
            rw [hcl] at hk'
            simp only [Bool.and_eq_true] at hk'
            have hyN := Nat.blt_eq.mp hk'.1
            have hat := hR.2 j _ hj
            have hP := va_P.one hat
            have hgj : g (32 + j) = z0 + j := hg j
            rw [← hgj] at hP
            have hv' : (fs.map (cv g))[y]? = some (cv g v) := by rw [List.getElem?_map, hv]; rfl
            rcases ckF_inv hk'.2 with hl | hl
            · exact va_get hx hb hts (pC_in hcl).1 hown hK hP 0 rfl hcl y hyN (hts _ hl) (fun _ q => q) hv' hd kk
            · exact va_getN hx hb hts (pC_in hcl).1 hown hK hP 0 rfl hcl y hyN (hts _ hl) (fun _ q => q) hv' hd kk
      · cases he
    · cases he
  · split at he
    · rename_i j a r
      split at he
      · rename_i n f ha
        split at he
        · rename_i hin
          cases he
          rcases e_arr_inv ha with ⟨-, hro⟩ | ⟨k, rfl, -, hk0⟩
          · obtain ⟨hX, hlt⟩ := hRO a _ hro
            exact va_ti hx hb hX hS hin rfl hd kk
          · have hP := va_P.one (hR.2 k _ hk0)
            rw [← hg k] at hP
            exact va_iald hx hb hK hP 0 0 rfl rfl hin hd kk
        · cases he
      · cases he
    · cases he
  · split at he
    · rename_i j a r
      split at he
      · rename_i n f ha
        split at he
        · rename_i hin
          cases he
          rcases e_arr_inv ha with ⟨h0, -⟩ | ⟨k, rfl, -, hk0⟩
          · cases h0
          · have hP := va_P.one (hR.2 k _ hk0)
            rw [← hg k] at hP
            exact va_bald hx hb hK hP 0 1 rfl rfl hin hd kk
        · cases he
      · cases he
    · cases he
  · split at he
    · rename_i j a r
      split at he
      · rename_i n f ha
        split at he
        · rename_i hin
          cases he
          obtain ⟨k, rfl, -, hk0⟩ := e_c_inv ha
          have hP := va_P.one (hR.2 k _ hk0)
          rw [← hg k] at hP
          exact va_lald hx hb hK hP 0 2 rfl rfl hin hd kk
        · cases he
      · cases he
    · cases he
  · split at he
    · rename_i j a r
      split at he
      · rename_i n f ha
        split at he
        · rename_i hin
          cases he
          obtain ⟨k, rfl, -, hk0⟩ := e_c_inv ha
          have hP := va_P.one (hR.2 k _ hk0)
          rw [← hg k] at hP
          have e9 : cv g (va_rf (f j.toNatClampNeg)) = va_rf ((f j.toNatClampNeg).map g) := by cases f j.toNatClampNeg <;> rfl
          rw [List.map_cons, e9] at kk
          exact va_aldq hx hb hK hP 0 3 rfl rfl hin hd kk
        · cases he
      · cases he
    · cases he
  · split at he
    · rename_i a r
      split at he
      · rename_i n f ha
        cases he
        rcases e_arr_inv ha with ⟨-, hro⟩ | ⟨k, rfl, -, hk0⟩
        · obtain ⟨hX, hlt⟩ := hRO a _ hro
          exact va_tlen hx hb hX hS rfl hd kk
        · have hP := va_P.one (hR.2 k _ hk0)
          rw [← hg k] at hP
          exact va_alen hx hb hK hP 0 0 rfl rfl rfl hd kk
      · cases he
    · cases he
  · rename_i ix
    cases he
    have hk' := hk
    simp only [ckX] at hk'
    split at hk'
    · rename_i nm w hnm
      simp only [Bool.and_eq_true] at hk'
      have h0 := Nat.blt_eq.mp hk'.2
      have hZ := hSt (y - 1) nm hnm
      rw [show y - 1 + 1 = y by omega] at hZ
      exact va_gets hx hb hZ hS hown (hts _ (ckW_mem hk'.1)) (fun _ q => q) hd kk
    · cases hk'
  · rename_i ix
    have hk' := hk
    simp only [ckX] at hk'
    split at hk'
    · rename_i w
      cases hx0 : Nat.beq x 0 with
      | true =>
        rw [hx0] at hk' he
        obtain ⟨v, hv, hS'⟩ := Option.map_eq_some_iff.mp he
        subst hS'
        simp only [cond_true, hv] at hk'
        exact lv_ldc hx hb hown (hts _ (ckW_mem hk')) hd kk
      | false =>
        rw [hx0] at hk' he
        cases he
        simp only [cond_false] at hk'
        split at hk'
        · rename_i q hq
          simp only [Bool.and_eq_true, decide_eq_true_eq] at hk'
          obtain ⟨⟨e1, e2⟩, e3⟩ := hk'
          have h16 := Nat.ble_eq.mp e3
          have hZ := hTxt (y - 16) ix q hq (by rw [e1]; exact List.mem_of_getElem? e2)
          rw [show 16 + (y - 16) = y by omega, e1] at hZ
          exact va_ldcS hx hb hown hZ hd kk
        · cases hk'
    · cases hk'
  · rename_i ix
    have hk' := hk
    simp only [ckX] at hk'
    cases hx0 : Nat.beq x 0 with
    | true =>
      rw [hx0] at he
      obtain ⟨v, hv, hS'⟩ := Option.map_eq_some_iff.mp he
      subst hS'
      rw [hv] at hk'
      split at hk'
      · rename_i v' w hv'
        cases hv'
        exact lv_ldcw hx hb hown (hts _ (ckW_mem hk')) hd kk
      · cases hk'
    | false => rw [hx0] at he; cases he
  · rename_i ix
    have hk' := hk
    simp only [ckX] at hk'
    obtain ⟨v, hv, hS'⟩ := Option.map_eq_some_iff.mp he
    subst hS'
    rw [hv] at hk'
    split at hk'
    · rename_i v' w hv'
      cases hv'
      exact lv_ldc2 hx hb hown (hts _ (ckW_mem hk')) hd kk
    · cases hk'
  · cases he
end HEAP
