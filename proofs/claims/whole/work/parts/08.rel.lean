/-! HOW THE PURE HEAP LIES IN THE MACHINE'S: cell i of the list at the address z0 + i; nothing else of ours is above z0. -/
def cv (g : Nat → Nat) (v : Value) : Value := match v with
  | .ref k => .ref (g k)
  | v => v
def cE (g : Nat → Nat) (dT : Nat → ClassId) (e : aE) : va_E := match e with
  | .inl (t, n, .inl f) => .inl (dT t, n, .inl f)
  | .inl (t, n, .inr (.inl f)) => .inl (dT t, n, .inr (.inl f))
  | .inl (t, n, .inr (.inr f)) => .inl (dT t, n, .inr (.inr (.inr (.inr (fun j => (f j).map g)))))
  | .inr (ci, fs) => .inr (ci, fs.map (cv g))
def Rp (z0 : Nat) (g : Nat → Nat) (D : va_G) (dT : Nat → ClassId) (h : aH) (H : Heap) : Prop :=
  H.size = z0 + h.length ∧ ∀ (i : Nat) (e : aE), h[i]? = some e → va_at D pCl (z0 + i, cE g dT e) H
def e_sz (e : aE) : Nat := match e with
  | .inl (_, n, _) => n
  | .inr (_, fs) => fs.length
def hz (h : aH) : Nat := (h.map e_sz).sum
theorem cv_cat (g : Nat → Nat) (v : Value) : (cv g v).category = v.category := by cases v <;> rfl
theorem hz_set {h : aH} {i : Nat} {e e' : aE} (hi : h[i]? = some e) (hs : e_sz e' = e_sz e) : hz (h.set i e') = hz h := by
  unfold hz
  congr 1
  apply List.ext_getElem?
  intro j
  rw [List.getElem?_map, List.getElem?_map, List.getElem?_set]
  have hl := (List.getElem?_eq_some_iff.mp hi).1
  by_cases hj : i = j
  · subst hj
    rw [if_pos rfl, if_pos hl, hi]
    simp [hs]
  · simp [hj]
theorem hz_app (h : aH) (e : aE) : hz (h ++ [e]) = hz h + e_sz e := by simp [hz]
theorem Rp.set {z0 : Nat} {g : Nat → Nat} {D : va_G} {dT : Nat → ClassId} {h : aH} {H H1 : Heap} (hR : Rp z0 g D dT h H) {i : Nat} {e' : aE} (hi : i < h.length) (he : va_at D pCl (z0 + i, cE g dT e') H1) (hs : H1.size = H.size) (ho : ∀ q : Nat, q ≠ z0 + i → H1[q]? = H[q]?) : Rp z0 g D dT (h.set i e') H1 := by
  refine ⟨by rw [hs, hR.1, List.length_set], fun j e hj => ?_⟩
  rw [List.getElem?_set] at hj
  by_cases hij : i = j
  · subst hij
    simp [hi] at hj
    rw [← hj]
    exact he
  · rw [if_neg hij] at hj
    exact (hR.2 j e hj).kept (ho _ (by omega))
theorem Rp.push {z0 : Nat} {g : Nat → Nat} {D : va_G} {dT : Nat → ClassId} {h : aH} {H H1 : Heap} (hR : Rp z0 g D dT h H) {e' : aE} (he : va_at D pCl (z0 + h.length, cE g dT e') H1) (hs : H1.size = H.size + 1) (ho : ∀ q : Nat, q < H.size → H1[q]? = H[q]?) : Rp z0 g D dT (h ++ [e']) H1 := by
  refine ⟨by rw [hs, hR.1, List.length_append]; rfl, fun j e hj => ?_⟩
  by_cases hl : j < h.length
  · rw [List.getElem?_append_left hl] at hj
    exact (hR.2 j e hj).kept (ho _ (by rw [hR.1]; omega))
  · rw [List.getElem?_append_right (by omega)] at hj
    have hz : j - h.length < 1 := (List.getElem?_eq_some_iff.mp hj).1
    have hj0 : j = h.length := by omega
    subst hj0
    rw [Nat.sub_self] at hj
    cases hj
    exact he
theorem va_S.same {A : Nat → Prop} {H0 H H1 : Heap} {locs : List Loc} (h : va_S A H0 H locs) (hs : H1.size = H.size + 1) (ho : ∀ q : Nat, q < H.size → H1[q]? = H[q]?) : va_S A H0 H1 locs :=
  ⟨Nat.le_trans h.1 (by omega), fun q h1 h2 => (ho q (Nat.lt_of_lt_of_le h1 h.1)).trans (h.2.1 q h1 h2), h.2.2⟩
abbrev e_tys (dT : Nat → ClassId) : List (ClassId × FieldType) := [(dT 0, .int), (dT 1, .byte), (dT 2, .long), (dT 3, .object "SlotBuses$Row")]
/-- what the tables and the read-only cells say, at a method's start -/
def Wd (TX : State → Prop) (z0 : Nat) (g : Nat → Nat) (D : va_G) (dT : Nat → ClassId) (sc : aS) (s : State) : Prop :=
  va_K D pCl (e_tys dT) s ∧ z0 ≤ s.heap.size ∧ va_AO "SlotBuses$Row" s ∧ (∀ (k : Nat) (q : aS), e_ro sc k = some q → va_T .int (g k) q.1 (fun j => .int (q.2 j)) (fun a => z0 ≤ a) s s.heap ∧ g k < z0) ∧
  (∀ (j : Nat) (nm : String), statN[j]? = some nm → va_Z "SlotBuses$Tape" nm "[I" (.ref (g (j + 1))) (fun q => z0 ≤ q) s s.heap) ∧
  (∀ (y ix : Nat) (q : String × String), pSt[y]? = some q → Cond.stringRef q.1 ix q.2 ∈ lw_tbl → vk_R q.1 ix q.2 (g (16 + y)) s) ∧ TX s
/-- the world of texts may move with the tables, and with the heap above z0 -/
def TxOk (z0 : Nat) (TX : State → Prop) : Prop := ∀ s U : State, s.WarmedH U.vm → s.heap.size ≤ U.heap.size → (∀ q : Nat, q < s.heap.size → ¬ z0 ≤ q → U.heap[q]? = s.heap[q]?) → TX s → TX U
theorem Wd.moved {TX : State → Prop} {z0 : Nat} {g : Nat → Nat} {D : va_G} {dT : Nat → ClassId} {sc : aS} {s U : State} (hT : TxOk z0 TX) (h : Wd TX z0 g D dT sc s) (hW : s.WarmedH U.vm) (hs : s.heap.size ≤ U.heap.size) (ho : ∀ q : Nat, q < s.heap.size → ¬ z0 ≤ q → U.heap[q]? = s.heap[q]?) : Wd TX z0 g D dT sc U := by
  obtain ⟨h1, h2, h3, h4, h5, h6, h7⟩ := h
  refine ⟨va_K.moved hW.alike h1, Nat.le_trans h2 hs, va_AO.moved hW.alike h3, fun k q hk => ?_, fun j nm hj => ?_, fun y ix q hq hw => vk_R.warm hW (h6 y ix q hq hw), hT s U hW hs ho h7⟩
  · obtain ⟨a, b⟩ := h4 k q hk
    exact ⟨va_T.kept (va_T.moved hW.alike a) ho, b⟩
  · exact va_Z.kept (va_Z.moved hW.alike (h5 j nm hj)) ho
def mPc (TX : State → Prop) (z0 : Nat) (g : Nat → Nat) (D : va_G) (dT : Nat → ClassId) (sc : aS) (av : List Value) (h : aH) : Array Value → State → Prop := fun a U => a = (av.map (cv g)).toArray ∧ Rp z0 g D dT h U.heap ∧ Wd TX z0 g D dT sc U
def mQc (z0 : Nat) (g : Nat → Nat) (D : va_G) (dT : Nat → ClassId) (r : Option Value) (h' : aH) : Array Value → State → Outcome → State → Prop := fun _ st o t => o = .returned (r.map (cv g)) ∧ Rp z0 g D dT h' t.heap ∧ va_F (fun q => z0 ≤ q) st t
def rmOf (d mc ms : Nat) : Room := { frames := d, cells := mc, slots := ms, locals := 41 * d }
/-- a method's activation -/
def Cx (mid : Nat) (p : Program) (s : State) (m : MethodId) (args : Array Value) (meth : Method) (c : Code) : Prop :=
  p.tables.exec = Jvm.exec ∧ c.code = pB mid ∧ meth.sig.returnType = pR mid ∧ meth.locks = false ∧ c.maxLocals = pM mid ∧ s.vm.findClass (pY mid).cls = some m.cls ∧ (∀ w ∈ gt, w.before args s = true) ∧ ((pY mid).name = "<init>" → meth.name = "<init>")
theorem lv_args_cv (g : Nat → Nat) : ∀ (vs : List Value) (i : Nat), lv_args i (vs.map (cv g)) = (lv_args i vs).map (fun q => (q.1, cv g q.2))
  | [], _ => rfl
  | v :: vs, i => by
    simp only [List.map_cons, lv_args, cv_cat]
    rw [lv_args_cv g vs]
theorem lg_sl_cv (g : Nat → Nat) (vs : List Value) : (lg_sl (vs.map (cv g))).length = (lg_sl vs).length := by
  induction vs with
  | nil => rfl
  | cons v vs ih =>
    simp only [lg_sl, List.map_cons, List.flatMap_cons, List.length_append, cv_cat] at ih ⊢
    rw [ih]
    split <;> simp
theorem e_ld_has {g : Nat → Nat} {ls : Array Slot} {nL : Nat} {L : aL} (h : lv_has ls nL (L.map (fun q => (q.1, cv g q.2)))) {i : Nat} {v : Value} (he : e_ld L i = some v) : ls[i]? = some (.val (cv g v)) := by
  unfold e_ld at he
  cases hf : L.find? (fun q => q.1 == i) with
  | none => rw [hf] at he; cases he
  | some q =>
    rw [hf] at he
    have h1 : q.2 = v := Option.some.inj he
    have h2 := List.find?_some hf
    have h3 : q.1 = i := by simpa using h2
    have h4 := h.2.2 (q.1, cv g q.2) (List.mem_map.mpr ⟨q, List.mem_of_find?_eq_some hf, rfl⟩)
    rw [h1, h3] at h4
    exact h4
theorem e_nl_ok {g : Nat → Nat} {ls : Array Slot} {nL : Nat} {L : aL} (h : lv_has ls nL (L.map (fun q => (q.1, cv g q.2)))) {i : Nat} (hn : e_nl L i = true) : ∀ q ∈ L, ¬ (q.1 + 1 = i ∧ q.2.category = 2) := by
  rintro q hq ⟨h1, h2⟩
  subst h1
  simp only [e_nl] at hn
  cases hf : L.find? (fun r => r.1 == q.1) with
  | none => exact absurd (List.find?_eq_none.mp hf q hq) (by simp)
  | some r =>
    have h3 : r.1 = q.1 := by simpa using List.find?_some hf
    have e1 : e_ld L q.1 = some r.2 := by unfold e_ld; rw [hf]; rfl
    rw [e1] at hn
    have e2 := h.2.2 (r.1, cv g r.2) (List.mem_map.mpr ⟨r, List.mem_of_find?_eq_some hf, rfl⟩)
    have e3 := h.2.2 (q.1, cv g q.2) (List.mem_map.mpr ⟨q, hq, rfl⟩)
    rw [h3] at e2
    have e4 : cv g r.2 = cv g q.2 := by
      have := e2.symm.trans e3
      simpa using this
    have e5 := congrArg Value.category e4
    rw [cv_cat, cv_cat, h2] at e5
    have e6 := Nat.eq_of_beq_eq_true hn
    omega
theorem e_st1_cv {g : Nat → Nat} {ls : Array Slot} {nL : Nat} {L : aL} (h : lv_has ls nL (L.map (fun q => (q.1, cv g q.2)))) {i : Nat} (hn : e_nl L i = true) (v : Value) : (i, cv g v) :: (L.map (fun q => (q.1, cv g q.2))).filter (fun q => !(q.1 == i) && !(q.1 + 1 == i && q.2.category == 2)) = (e_st1 L i v).map (fun q => (q.1, cv g q.2)) := by
  unfold e_st1
  rw [List.map_cons, List.filter_map]
  congr 2
  apply List.filter_congr
  intro q hq
  have := e_nl_ok h hn q hq
  simp only [Function.comp, cv_cat]
  by_cases h1 : q.1 + 1 = i
  · by_cases h2 : q.2.category = 2
    · exact absurd ⟨h1, h2⟩ this
    · simp [h2]
  · simp [h1]
