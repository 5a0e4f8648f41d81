/-! THE WORLD AT THE LAW'S ENTRY -/
theorem en_gt {args : Array Value} {s : State} (hts : ∀ w ∈ lw_tbl, w.before args s = true) : ∀ w ∈ gt, w.before args s = true := fun w hw => hts w (List.mem_filter.mp hw).1
set_option maxRecDepth 100000 in
theorem en_i0 : Cond.instantiable RX0 6 ∈ lw_tbl := List.mem_of_getElem? (i := 500) rfl
set_option maxRecDepth 100000 in
theorem en_i1 : Cond.instantiable RX1 1 ∈ lw_tbl := List.mem_of_getElem? (i := 239) rfl
set_option maxRecDepth 100000 in
theorem en_i2 : Cond.instantiable RX2 13 ∈ lw_tbl := List.mem_of_getElem? (i := 188) rfl
set_option maxRecDepth 100000 in
theorem en_i3 : Cond.instantiable RX3 4 ∈ lw_tbl := List.mem_of_getElem? (i := 479) rfl
set_option maxRecDepth 100000 in
theorem en_i4 : Cond.instantiable RX4 3 ∈ lw_tbl := List.mem_of_getElem? (i := 460) rfl
set_option maxRecDepth 100000 in
theorem en_i5 : Cond.instantiable RX5 17 ∈ lw_tbl := List.mem_of_getElem? (i := 182) rfl
set_option maxRecDepth 100000 in
theorem en_i6 : Cond.instantiable RX6 3 ∈ lw_tbl := List.mem_of_getElem? (i := 165) rfl
set_option maxRecDepth 100000 in
theorem en_i7 : Cond.instantiable RX7 9 ∈ lw_tbl := List.mem_of_getElem? (i := 328) rfl
set_option maxRecDepth 100000 in
theorem en_i8 : Cond.instantiable RX8 12 ∈ lw_tbl := List.mem_of_getElem? (i := 249) rfl
set_option maxRecDepth 100000 in
theorem en_i9 : Cond.instantiable RX9 8 ∈ lw_tbl := List.mem_of_getElem? (i := 128) rfl
set_option maxRecDepth 100000 in
theorem en_i10 : Cond.instantiable RX10 5 ∈ lw_tbl := List.mem_of_getElem? (i := 304) rfl
set_option maxRecDepth 100000 in
theorem en_i11 : Cond.instantiable RX11 10 ∈ lw_tbl := List.mem_of_getElem? (i := 120) rfl
set_option maxRecDepth 100000 in
theorem en_i12 : Cond.instantiable RX12 36 ∈ lw_tbl := List.mem_of_getElem? (i := 1423) rfl
set_option maxRecDepth 100000 in
theorem en_iN : Cond.instantiable RXN 6 ∈ lw_tbl := List.mem_of_getElem? (i := 1358) rfl
set_option maxRecDepth 100000 in
theorem en_a0 : Cond.arrayClass .int ∈ lw_tbl := List.mem_of_getElem? (i := 163) rfl
set_option maxRecDepth 100000 in
theorem en_a1 : Cond.arrayClass .byte ∈ lw_tbl := List.mem_of_getElem? (i := 729) rfl
set_option maxRecDepth 100000 in
theorem en_a2 : Cond.arrayClass .long ∈ lw_tbl := List.mem_of_getElem? (i := 2029) rfl
set_option maxRecDepth 100000 in
theorem en_a3 : Cond.arrayOver (.object "SlotBuses$Row") ∈ lw_tbl := List.mem_of_getElem? (i := 466) rfl
set_option maxRecDepth 100000 in
theorem en_nT : Cond.initialized "SlotBuses$Tape" ∈ lw_tbl := List.mem_of_getElem? (i := 95) rfl
set_option maxRecDepth 100000 in
theorem en_nS : Cond.initialized "java/lang/String" ∈ lw_tbl := List.mem_of_getElem? (i := 108) rfl
set_option maxRecDepth 100000 in
theorem en_nP : Cond.initialized "jdk/internal/util/Preconditions" ∈ lw_tbl := List.mem_of_getElem? (i := 112) rfl
set_option maxRecDepth 100000 in
theorem en_nW : Cond.initialized Bundle.tN ∈ lw_tbl := List.mem_of_getElem? (i := 114) rfl
set_option maxRecDepth 100000 in
theorem en_lC : Cond.laysStatic "java/lang/String" "COMPACT_STRINGS" "Z" ∈ lw_tbl := List.mem_of_getElem? (i := 618) rfl
set_option maxRecDepth 100000 in
theorem en_lF : Cond.laysStatic "jdk/internal/util/Preconditions" "SIOOBE_FORMATTER" "Ljava/util/function/BiFunction;" ∈ lw_tbl := List.mem_of_getElem? (i := 666) rfl
set_option maxRecDepth 100000 in
theorem en_lU : Cond.laysStatic Bundle.tN "UNASSIGNED_STACK" Bundle.steD ∈ lw_tbl := List.mem_of_getElem? (i := 1384) rfl
set_option maxRecDepth 100000 in
theorem en_lP : Cond.laysStatic Bundle.tN "SUPPRESSED_SENTINEL" Bundle.listD ∈ lw_tbl := List.mem_of_getElem? (i := 1386) rfl
set_option maxRecDepth 100000 in
theorem en_c0 : Cond.castable nse nse ∈ lw_tbl := List.mem_of_getElem? (i := 1359) rfl
set_option maxRecDepth 100000 in
theorem en_d0 : Cond.declares (Bundle.init0 "java/lang/RuntimeException") ∈ lw_tbl := List.mem_of_getElem? (i := 1360) rfl
set_option maxRecDepth 100000 in
theorem en_d1 : Cond.declares (Bundle.init0 "java/lang/Exception") ∈ lw_tbl := List.mem_of_getElem? (i := 1362) rfl
set_option maxRecDepth 100000 in
theorem en_d2 : Cond.declares (Bundle.init0 Bundle.tN) ∈ lw_tbl := List.mem_of_getElem? (i := 1364) rfl
theorem en_cls {args : Array Value} {s : State} (hts : ∀ w ∈ lw_tbl, w.before args s = true) (c : Nat) (q : vw_C) (hq : pCl[c]? = some q) : ∃ r : ClassId × (Nat → Nat), u_Kn s q.1 q.2.1 q.2.2 r.1 r.2 := by
  have key : ∀ (ci n : Nat) (r : vw_C), pCl[ci]? = some r → Cond.instantiable r.1 n ∈ lw_tbl → ∃ x : ClassId × (Nat → Nat), u_Kn s r.1 r.2.1 r.2.2 x.1 x.2 := by
    intro ci n r h1 h2
    obtain ⟨C, T, N⟩ := r
    obtain ⟨cC, iS, h⟩ := u_known (en_gt hts) (pC_in h1).1 (hts _ h2)
    exact ⟨(cC, iS), h⟩
  have hlt : c < 14 := (List.getElem?_eq_some_iff.mp hq).1
  rcases (show c = 0 ∨ c = 1 ∨ c = 2 ∨ c = 3 ∨ c = 4 ∨ c = 5 ∨ c = 6 ∨ c = 7 ∨ c = 8 ∨ c = 9 ∨ c = 10 ∨ c = 11 ∨ c = 12 ∨ c = 13 by omega) with rfl | rfl | rfl | rfl | rfl | rfl | rfl | rfl | rfl | rfl | rfl | rfl | rfl | rfl
  · rw [← Option.some.inj hq]; exact key 0 6 _ rfl en_i0
  · rw [← Option.some.inj hq]; exact key 1 1 _ rfl en_i1
  · rw [← Option.some.inj hq]; exact key 2 13 _ rfl en_i2
  · rw [← Option.some.inj hq]; exact key 3 4 _ rfl en_i3
  · rw [← Option.some.inj hq]; exact key 4 3 _ rfl en_i4
  · rw [← Option.some.inj hq]; exact key 5 17 _ rfl en_i5
  · rw [← Option.some.inj hq]; exact key 6 3 _ rfl en_i6
  · rw [← Option.some.inj hq]; exact key 7 9 _ rfl en_i7
  · rw [← Option.some.inj hq]; exact key 8 12 _ rfl en_i8
  · rw [← Option.some.inj hq]; exact key 9 8 _ rfl en_i9
  · rw [← Option.some.inj hq]; exact key 10 5 _ rfl en_i10
  · rw [← Option.some.inj hq]; exact key 11 10 _ rfl en_i11
  · rw [← Option.some.inj hq]; exact key 12 36 _ rfl en_i12
  · rw [← Option.some.inj hq]; exact key 13 6 _ rfl en_iN
theorem en_K {args : Array Value} {s : State} (hts : ∀ w ∈ lw_tbl, w.before args s = true) : ∃ (D : va_G) (dT : Nat → ClassId), va_K D pCl (e_tys dT) s := by
  have h0 : ∀ c : Nat, ∃ r : ClassId × (Nat → Nat), ∀ q : vw_C, pCl[c]? = some q → u_Kn s q.1 q.2.1 q.2.2 r.1 r.2 := by
    intro c
    cases hq : pCl[c]? with
    | none => exact ⟨((0 : Nat), fun _ => 0), fun q h => by cases h⟩
    | some q =>
      obtain ⟨r, h⟩ := en_cls hts c q hq
      exact ⟨r, fun q' h' => by cases h'; exact h⟩
  obtain ⟨f, hf⟩ := Classical.axiomOfChoice h0
  have ar : ∀ ty : FieldType, (Cond.arrayClass ty).before args s = true → ∃ cA : ClassId, ArrOfT s cA ty ∧ s.vm.findClass ("[" ++ ty.toString) = some cA := by
    intro ty h
    obtain ⟨cA, kA, comp, h1, h2, h3⟩ := Cond.arrayClass_spec h
    exact ⟨cA, fun n z => ⟨fun k h => (by cases h), kA, h2, comp, h3⟩, h1⟩
  obtain ⟨c0, a0, b0⟩ := ar .int (hts _ en_a0)
  obtain ⟨c1, a1, b1⟩ := ar .byte (hts _ en_a1)
  obtain ⟨c2, a2, b2⟩ := ar .long (hts _ en_a2)
  obtain ⟨comp, c3, k3, h1, -, h3, h4, h5⟩ := Cond.arrayOver_spec (hts _ en_a3)
  refine ⟨(fun c => (f c).1, fun c => (f c).2), fun k => match k with
    | 0 => c0
    | 1 => c1
    | 2 => c2
    | _ => c3, fun c q hq => hf c q hq, fun k q hk => ?_⟩
  have hlt : k < 4 := (List.getElem?_eq_some_iff.mp hk).1
  rcases (show k = 0 ∨ k = 1 ∨ k = 2 ∨ k = 3 by omega) with rfl | rfl | rfl | rfl
  · rw [← Option.some.inj hk]; exact ⟨a0, b0⟩
  · rw [← Option.some.inj hk]; exact ⟨a1, b1⟩
  · rw [← Option.some.inj hk]; exact ⟨a2, b2⟩
  · rw [← Option.some.inj hk]; exact ⟨fun n z => ⟨fun k h => (by cases h), k3, h3, comp, h4⟩, k3, comp, h3, h4, h1, h5⟩
/-- what the Statement says of the start, one by one -/
def en_FL : List Jvm.Cond := flatC (Jvm.Cond.and given_1 narrow_1)
def en_rw (tm : Term) (ty : FieldType) (l : List Int32) : List Jvm.Cond := Cond.arrayOf tm ty :: Jvm.Cond.eq (.length tm) (.int (Int32.ofNat l.length)) :: (List.range l.length).map (fun j => Jvm.Cond.eq (.elem tm (.int (Int32.ofNat j))) (.int (l.getD j 0)))
theorem en_T {args : Array Value} {s : State} {tm : Term} {ty : FieldType} {l : List Int32} {A : Nat → Prop} (hw : ∀ w ∈ en_rw tm ty l, w.before args s = true) (hN : l.length < 2 ^ 31) (hA : ∀ a : Nat, a < s.heap.size → ¬ A a) : ∃ t : Nat, tm.eval args s none [] s = some (.ref t) ∧ va_T ty t l.length (fun j => .int (l.getD j 0)) A s s.heap :=
  va_Tof (f := fun j => .int (l.getD j 0)) hN (hw _ List.mem_cons_self) (va_eqt (hw _ (List.mem_cons_of_mem _ List.mem_cons_self))) (fun j hj => va_eqt (hw _ (List.mem_cons_of_mem _ (List.mem_cons_of_mem _ (List.mem_map.mpr ⟨j, List.mem_range.mpr hj, rfl⟩))))) hA
/-- the seven rows of Tape -/
def en_rk (j : Nat) : Bool := match statN[j]?, e_rows[j]? with
  | some nm, some l => (en_rw (.static "SlotBuses$Tape" nm "[I") .int l).all (fun w => decide (w ∈ en_FL)) && decide (Cond.laysStatic "SlotBuses$Tape" nm "[I" ∈ lw_tbl) && Nat.blt l.length 100
  | _, _ => true
set_option maxRecDepth 100000 in
theorem en_rck : (List.range 7).all en_rk = true := by decide +kernel
theorem en_row {args : Array Value} {s : State} (hts : ∀ w ∈ lw_tbl, w.before args s = true) (hfl : ∀ w ∈ en_FL, w.before args s = true) : ∃ tr : Nat → Nat, ∀ (j : Nat) (nm : String) (l : List Int32), statN[j]? = some nm → e_rows[j]? = some l →
    va_T .int (tr j) l.length (fun i => .int (l.getD i 0)) (fun q => s.heap.size ≤ q) s s.heap ∧ va_Z "SlotBuses$Tape" nm "[I" (.ref (tr j)) (fun q => s.heap.size ≤ q) s s.heap := by
  have hA : ∀ a : Nat, a < s.heap.size → ¬ (fun q : Nat => s.heap.size ≤ q) a := fun a h => Nat.not_le.mpr h
  have h0 : ∀ j : Nat, ∃ t : Nat, ∀ (nm : String) (l : List Int32), statN[j]? = some nm → e_rows[j]? = some l →
      va_T .int t l.length (fun i => .int (l.getD i 0)) (fun q => s.heap.size ≤ q) s s.heap ∧ va_Z "SlotBuses$Tape" nm "[I" (.ref t) (fun q => s.heap.size ≤ q) s s.heap := by
    intro j
    cases h1 : statN[j]? with
    | none => exact ⟨0, fun nm l q1 q2 => by cases q1⟩
    | some nm =>
      cases h2 : e_rows[j]? with
      | none => exact ⟨0, fun nm l q1 q2 => by cases q2⟩
      | some l =>
        have hj : j < 7 := (List.getElem?_eq_some_iff.mp h1).1
        have hk := List.all_eq_true.mp en_rck j (List.mem_range.mpr hj)
        unfold en_rk at hk
        rw [h1, h2] at hk
        simp only [Bool.and_eq_true, List.all_eq_true, decide_eq_true_eq] at hk
        obtain ⟨⟨k1, k2⟩, k3⟩ := hk
        have k3 := Nat.blt_eq.mp k3
        obtain ⟨t, ht, hT⟩ := en_T (A := fun q => s.heap.size ≤ q) (fun w hw => hfl w (k1 w hw)) (Nat.lt_trans k3 (Nat.le_of_ble_eq_true rfl)) hA
        refine ⟨t, fun nm' l' q1 q2 => ?_⟩
        cases q1
        cases q2
        exact ⟨hT, va_Zof (hts _ k2) (hts _ en_nT) ht hA⟩
  exact Classical.axiomOfChoice h0
/-- the six texts -/
def en_ix (o t : String) : Nat := if o = "SlotBuses$Tape" then (if t = "ndble" then 50 else if t = "ftlm" then 65 else 94) else (if t = "ndble" then 125 else if t = "ftlm" then 131 else 137)
def en_tx (t : String) : List Int32 := t.toList.map (fun c => Int32.ofNat c.toNat)
def en_tm (r : String × String) : Term := .string r.1 (en_ix r.1 r.2)
def en_sw (tm : Term) (l : List Int32) : List Jvm.Cond := Cond.exactly tm "java/lang/String" :: Jvm.Cond.eq (.field tm "java/lang/String" "coder" "B") (.int 0) :: en_rw (.field tm "java/lang/String" "value" "[B") .byte l
set_option maxRecDepth 100000 in
theorem en_sck : pSt.all (fun r => (en_sw (en_tm r) (en_tx r.2)).all (fun w => decide (w ∈ en_FL)) && Nat.blt (en_tx r.2).length 100) = true := by decide +kernel
set_option maxRecDepth 100000 in
theorem en_sall : lw_tbl.all (fun w => match w with
    | .stringRef o i t => Nat.beq i (en_ix o t)
    | _ => true) = true := by decide +kernel
theorem en_six {o t : String} {i : Nat} (h : Cond.stringRef o i t ∈ lw_tbl) : i = en_ix o t := Nat.eq_of_beq_eq_true (List.all_eq_true.mp en_sall _ h)
theorem en_str {args : Array Value} {s : State} (hfl : ∀ w ∈ en_FL, w.before args s = true) : ∃ ts : Nat → Nat × Nat, ∀ (y : Nat) (r : String × String), pSt[y]? = some r →
    (en_tm r).eval args s none [] s = some (.ref (ts y).1) ∧ TxS s.heap.size (ts y).1 (ts y).2 (en_tx r.2) s s.heap := by
  have hA : ∀ a : Nat, a < s.heap.size → ¬ (fun q : Nat => s.heap.size ≤ q) a := fun a h => Nat.not_le.mpr h
  have h0 : ∀ y : Nat, ∃ q : Nat × Nat, ∀ r : String × String, pSt[y]? = some r → (en_tm r).eval args s none [] s = some (.ref q.1) ∧ TxS s.heap.size q.1 q.2 (en_tx r.2) s s.heap := by
    intro y
    cases h1 : pSt[y]? with
    | none => exact ⟨(0, 0), fun r q => by cases q⟩
    | some r =>
      have hk := List.all_eq_true.mp en_sck r (List.mem_of_getElem? h1)
      simp only [Bool.and_eq_true, List.all_eq_true, decide_eq_true_eq] at hk
      obtain ⟨k1, k2⟩ := hk
      have k2 := Nat.blt_eq.mp k2
      have hw : ∀ w ∈ en_sw (en_tm r) (en_tx r.2), w.before args s = true := fun w hw => hfl w (k1 w hw)
      have hex := hw _ List.mem_cons_self
      obtain ⟨a, c, cA, kA, q1, -⟩ := Cond.exactly_spec (args := args) (first := s) (o := none) (s := s) (idx := []) (t := en_tm r) (cls := "java/lang/String") hex
      obtain ⟨t, ht, hT⟩ := en_T (A := fun q => s.heap.size ≤ q) (fun w hw2 => hw w (List.mem_cons_of_mem _ (List.mem_cons_of_mem _ hw2))) (Nat.lt_trans k2 (Nat.le_of_ble_eq_true rfl)) hA
      refine ⟨(a, t), fun r' q => ?_⟩
      cases q
      exact ⟨q1, va_Oof hex q1 hA, vk_OFof q1 (va_eqt (hw _ (List.mem_cons_of_mem _ List.mem_cons_self))) hA, vk_OFof q1 ht hA, hT⟩
  exact Classical.axiomOfChoice h0
set_option maxRecDepth 100000 in
theorem en_f0 : Jvm.Cond.eq (.static "java/lang/String" "COMPACT_STRINGS" "Z") (.int 1) ∈ en_FL := by decide +kernel
set_option maxRecDepth 100000 in
theorem en_f1 : Cond.isRef (.static "jdk/internal/util/Preconditions" "SIOOBE_FORMATTER" "Ljava/util/function/BiFunction;") ∈ en_FL := by decide +kernel
set_option maxRecDepth 100000 in
theorem en_f2 : Cond.isRef (.static Bundle.tN "UNASSIGNED_STACK" Bundle.steD) ∈ en_FL := by decide +kernel
set_option maxRecDepth 100000 in
theorem en_f3 : Cond.isRef (.static Bundle.tN "SUPPRESSED_SENTINEL" Bundle.listD) ∈ en_FL := by decide +kernel
theorem en_world {args : Array Value} {s : State} {b L : Nat} {xs : Nat → Int32} (hts : ∀ w ∈ lw_tbl, w.before args s = true) (hgv : (Jvm.Cond.and given_1 narrow_1).before args s = true) (hX : va_X b L xs s s.heap) (hbl : b < s.heap.size) :
    ∃ (g av : Nat → Nat) (D : va_G) (dT : Nat → ClassId), g 0 = b ∧ (∀ i, g (32 + i) = s.heap.size + i) ∧ Wd (TxW s.heap.size g av) s.heap.size g D dT (L, xs) s := by
  have hA : ∀ a : Nat, a < s.heap.size → ¬ (fun q : Nat => s.heap.size ≤ q) a := fun a h => Nat.not_le.mpr h
  have hfl : ∀ w ∈ en_FL, w.before args s = true := flat_of_before _ hgv
  obtain ⟨D, dT, hK⟩ := en_K hts
  obtain ⟨tr, htr⟩ := en_row hts hfl
  obtain ⟨ts, hst⟩ := en_str hfl
  obtain ⟨g, hg⟩ : ∃ g : Nat → Nat, g = fun k => if k < 1 then b else if k < 16 then tr (k - 1) else if k < 32 then (ts (k - 16)).1 else s.heap.size + (k - 32) := ⟨_, rfl⟩
  have g0 : g 0 = b := by rw [hg]; rfl
  have g1 : ∀ j, j < 7 → g (j + 1) = tr j := by
    intro j hj
    rw [hg]
    show (if j + 1 < 1 then b else if j + 1 < 16 then tr (j + 1 - 1) else if j + 1 < 32 then (ts (j + 1 - 16)).1 else s.heap.size + (j + 1 - 32)) = tr j
    rw [if_neg (by omega), if_pos (by omega), Nat.add_sub_cancel]
  have g2 : ∀ k, 16 ≤ k → k < 32 → g k = (ts (k - 16)).1 := by
    intro k h1 h2
    rw [hg]
    show (if k < 1 then b else if k < 16 then tr (k - 1) else if k < 32 then (ts (k - 16)).1 else s.heap.size + (k - 32)) = (ts (k - 16)).1
    rw [if_neg (by omega), if_neg (by omega), if_pos h2]
  have g3 : ∀ i, g (32 + i) = s.heap.size + i := by
    intro i
    rw [hg]
    show (if 32 + i < 1 then b else if 32 + i < 16 then tr (32 + i - 1) else if 32 + i < 32 then (ts (32 + i - 16)).1 else s.heap.size + (32 + i - 32)) = s.heap.size + i
    rw [if_neg (by omega), if_neg (by omega), if_neg (by omega), Nat.add_sub_cancel_left]
  clear hg
  refine ⟨g, fun k => (ts (k - 16)).2, D, dT, g0, g3, hK, Nat.le_refl _, va_AO.of (hts _ en_a3), fun k q hk => ?_, fun j nm hj => ?_, fun y ix q hq hw => ?_, fun k t ht => ?_, ⟨va_Zof (hts _ en_lC) (hts _ en_nS) (va_eqt (hfl _ en_f0)) hA, va_Zqof (hts _ en_lF) (hts _ en_nP) (hfl _ en_f1) hA⟩,
    vx_Zqof (hts _ en_lU) (hts _ en_nW) (hfl _ en_f2) hA, vx_Zqof (hts _ en_lP) (hts _ en_nW) (hfl _ en_f3) hA, va_Nw.of rfl (hts _ en_c0), va_Nw.of rfl (hts _ en_d0), va_Nw.of rfl (hts _ en_d1), va_Nw.of rfl (hts _ en_d2)⟩
  · cases k with
    | zero =>
      have hk : some (L, xs) = some q := hk
      cases hk
      obtain ⟨scr, h1, h2, h3, h4, h5⟩ := hX
      rw [g0]
      exact ⟨⟨scr, h1, h2, h3, Nat.le_of_eq h4.symm, (show scr.slots.size.toInt32 = L.toInt32 by rw [h4]), h5, hA _ hbl⟩, hbl⟩
    | succ j =>
      have hk : (e_rows[j]?).map (fun l => (l.length, fun i => l.getD i 0)) = some q := hk
      obtain ⟨l, hl, rfl⟩ := Option.map_eq_some_iff.mp hk
      have hj : j < 7 := (List.getElem?_eq_some_iff.mp hl).1
      have hn : statN[j]? = some (statN[j]'hj) := List.getElem?_eq_getElem hj
      have h1 := (htr j _ l hn hl).1
      rw [g1 j hj]
      refine ⟨h1, ?_⟩
      obtain ⟨cell, h2, -⟩ := h1
      exact (Array.getElem?_eq_some_iff.mp h2).1
  · have hj7 : j < 7 := (List.getElem?_eq_some_iff.mp hj).1
    have hn : e_rows[j]? = some (e_rows[j]'hj7) := List.getElem?_eq_getElem hj7
    rw [g1 j hj7]
    exact (htr j nm _ hj hn).2
  · have hy : y < 6 := (List.getElem?_eq_some_iff.mp hq).1
    have h1 := (hst y q hq).1
    rw [g2 (16 + y) (by omega) (by omega), Nat.add_sub_cancel_left]
    have h2 := hts _ hw
    rw [en_six hw] at h2 ⊢
    exact vk_R.of h2 h1
  · unfold e_txt at ht
    cases hb : Nat.blt k 16 with
    | true => rw [hb] at ht; cases ht
    | false =>
      rw [hb] at ht
      have hk : 16 ≤ k := Nat.not_lt.mp fun q => by rw [Nat.blt_eq.mpr q] at hb; cases hb
      have ht : (pSt[k - 16]?).map (fun q => q.2.toList.map (fun c => Int32.ofNat c.toNat)) = some t := ht
      obtain ⟨r, hr, rfl⟩ := Option.map_eq_some_iff.mp ht
      have hy : k - 16 < 6 := (List.getElem?_eq_some_iff.mp hr).1
      rw [g2 k hk (by omega)]
      exact (hst (k - 16) r hr).2
