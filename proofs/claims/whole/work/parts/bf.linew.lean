/-! THE LAW'S OWN 'line': the words of its throw and its catch -/
abbrev nsn : List String := ["java/lang/RuntimeException", "java/lang/Exception"]
abbrev yLn : MethodName := ⟨"SlotBusesLaw", "line", "(LSlotBuses;IIII[J)I"⟩
def at0_ps : List Nat := [21, 1286, 1295, 1297, 1300, 1302, 1287, 1288, 32, 33, 1289, 1294, 1298, 1314, 1276, 1315, 1278, 1316, 1280, 1290, 1292, 1282, 1304, 1305, 1306, 1307, 1267, 1307, 1308, 1309, 1310, 1269, 1310, 1311, 1312, 1287, 1271, 1303, 1265, 1266, 1273, 1274, 1275, 1277, 1279, 1281, 1285, 1284, 1283]
set_option maxRecDepth 100000 in
theorem at0_eq : vx_at0 "SlotBuses" 148 nse nsn = at0_ps.filterMap (fun i => lw_tbl[i + 93]?) := by decide +kernel
def at0_nb : List Jvm.Cond := [.castable nse nse, .declares (Bundle.init0 "java/lang/RuntimeException"), .declares (Bundle.init0 "java/lang/Exception"), .declares (Bundle.init0 Bundle.tN)]
theorem at0_good : (vx_at0 "SlotBuses" 148 nse nsn).all (fun w => goodN w || decide (w ∈ at0_nb)) = true := by decide +kernel
theorem at0_ot : (vx_at0 "SlotBuses" 148 nse nsn).all vx_ot = true := by decide +kernel
theorem at0_all {args : Array Value} {s : State} (hts : ∀ w ∈ gt, w.before args s = true) (hn : NWd s) : ∀ w ∈ vx_at0 "SlotBuses" 148 nse nsn, w.before args s = true := by
  intro w hw
  have h1 := List.all_eq_true.mp at0_good w hw
  rw [at0_eq] at hw
  obtain ⟨i, -, hi⟩ := List.mem_filterMap.mp hw
  rcases Bool.or_eq_true_iff.mp h1 with h1 | h1
  · exact hts w (gt_mem (List.mem_of_getElem? hi) h1)
  · have h2 : w ∈ at0_nb := by simpa using h1
    simp only [at0_nb, List.mem_cons, List.not_mem_nil, or_false] at h2
    rcases h2 with rfl | rfl | rfl | rfl
    · exact va_Nw.use rfl hn.1
    · exact va_Nw.use rfl hn.2.1
    · exact va_Nw.use rfl hn.2.2.1
    · exact va_Nw.use rfl hn.2.2.2
set_option maxRecDepth 100000 in
theorem lg_k : Cond.classLink "SlotBuses" 146 nse ∈ gt := ckW_of (i := 1357) rfl rfl
set_option maxRecDepth 100000 in
theorem lg_n : Cond.initialized nse ∈ gt := ckW_of (i := 117) rfl rfl
set_option maxRecDepth 100000 in
theorem lg_c : Cond.codeWith yLn method_3_code 7 (some .int) [(0, 14, 17, 13)] ∈ gt := ckW_of (i := 1351) rfl rfl
set_option maxRecDepth 100000 in
theorem lg_l : Cond.methodLink "SlotBusesLaw" 42 yLn ∈ gt := ckW_of (i := 1349) rfl rfl
set_option maxRecDepth 100000 in
theorem lg_s : Cond.static yLn ∈ gt := ckW_of (i := 1350) rfl rfl
set_option maxRecDepth 100000 in
theorem lg_13 : Cond.classLink "SlotBusesLaw" 13 nse ∈ gt := ckW_of (i := 1352) rfl rfl
set_option maxRecDepth 100000 in
theorem lg_7 : Cond.methodLink "SlotBusesLaw" 7 (pY 134) ∈ gt := ckW_of (i := 1353) rfl rfl
set_option maxRecDepth 100000 in
theorem lg_7i : Cond.instanceMethod (pY 134) ∈ gt := ckW_of (i := 1354) rfl rfl
set_option maxRecDepth 100000 in
theorem lg_7s : Cond.selects "SlotBuses" (pY 134) (pY 134) ∈ gt := ckW_of (i := 1355) rfl rfl
set_option maxRecDepth 100000 in
theorem lg_iL : Cond.initialized "SlotBusesLaw" ∈ gt := ckW_of (i := 93) rfl rfl
set_option maxRecDepth 100000 in
theorem lg_iS : Cond.initialized "SlotBuses" ∈ gt := ckW_of (i := 94) rfl rfl
theorem lg_7d : ckD (pY 134) 4 = true := by decide +kernel
theorem lg_d : ckD yLn 6 = true := by decide +kernel
section Ends
variable {p : Program} {l : Launch} {e : Env} {R : Room} {s : State} {m : MethodId} {args : Array Value} {below : List Frame} {meth : Method} {c : Code} {H : Heap} {locs : List Loc} {cells slots : Nat} {Q : State → Prop}
variable {mc ms : Nat} {free : Addr → Prop} {A0 A1 : Nat → Prop} {H0 : Heap} {a : Array Value} {ls : Array Slot} {st0 rest : List Value}
variable {Qc : Array Value → State → Outcome → State → Prop} {XC : String → State → State → Prop}
theorem vx_thr1 {cc : ByteArray} {pc : Nat} (hexec : p.tables.exec = Jvm.exec) (hb : c.code = cc) (hl : l.stackTraces = false) {own cls : String} {names : List String} {ik ic mc ms : Nat} {A : Nat → Prop}
    (hown : s.vm.findClass own = some m.cls) (hcls : Bundle.fit cls = true) (hnames : ∀ n ∈ names, Bundle.fit n = true)
    (hk : (Cond.classLink own ik cls).before args s = true) (hini : (Cond.initialized cls).before args s = true) (hat : ∀ w ∈ vx_at0 own ic cls names, w.before args s = true)
    (hgood : ∀ w ∈ Cond.classLink own ik cls :: Cond.initialized cls :: vx_at0 own ic cls names, vx_ot w = true)
    (hU : vx_Zq Bundle.tN "UNASSIGNED_STACK" Bundle.steD A s s.heap) (hN : vx_Zq Bundle.tN "SUPPRESSED_SENTINEL" Bundle.listD A s s.heap) (hS : va_S A s.heap H locs) (hsize : ls.size = c.maxLocals)
    (d0 : decode cc pc = .ok (.new ik, 3)) (d3 : decode cc (pc + 3) = .ok (.dup, 1)) (d4 : decode cc (pc + 4) = .ok (.invokespecial ic, 3)) (d7 : decode cc (pc + 7) = .ok (.athrow, 1))
    (hout : ∀ x ∈ c.exceptionTable.toList, covers x (pc + 7) = false)
    (hRframes : names.length + 3 < R.frames) (hRlocals : (rest.map fun v => v.category).sum + (13 * (names.length + 1) + 42) ≤ R.locals) (hRcells : cells + 1 ≤ R.cells) (hRslots : slots + 6 ≤ R.slots) (hlocks : meth.locks = false)
    (hx : ∀ t : State, s.vm.Alike t.vm → t.heap.size = H.size + 1 → (∀ q : Nat, q < H.size → t.heap[q]? = H[q]?) → (∃ ce : Cell, t.heap[H.size]? = some ce ∧ ce.vm = .none ∧ s.vm.findClass cls = some ce.cls) → XC cls s t)
    (hf : ∀ z ∈ locs, free z.base) (hc : cells + 1 ≤ mc) (hs : slots + 6 ≤ ms) :
    W p l e R s m args below meth c H locs cells slots (vx_MQ below Qc XC args s mc ms free) (F0 m pc ls rest) := by
  intro T hT X
  have htr : e.platform.stackTraces = false := (show e.platform.stackTraces = l.stackTraces by rw [X.admits.platform]).trans hl
  have Y := vx_rebase X (R' := { frames := R.frames, locals := R.locals, cells := 1, slots := 6 }) (Nat.le_refl _) (Nat.le_refl _) hRcells hRslots
  obtain ⟨s', hA⟩ : ∃ z, z = (T.setVm s.vm).setFrames (.invoking m args :: below) := ⟨_, rfl⟩
  rw [← hA] at Y
  have hvm : s'.vm = s.vm := by rw [hA]; rfl
  have hhp : s'.heap = H := by rw [hA]; exact hT
  have hW0 : s.WarmedH s'.vm := by rw [hvm]; exact State.WarmedH.refl s
  have hat' : ∀ w ∈ vx_at0 own ic cls names, w.before args s' = true := fun w hw => vx_ot_at hW0 hvm.symm (hgood w (List.mem_cons_of_mem _ (List.mem_cons_of_mem _ hw))) (hat w hw)
  have hk' : (Cond.classLink own ik cls).before args s' = true := vx_ot_at hW0 hvm.symm (hgood _ List.mem_cons_self) hk
  have hini' : (Cond.initialized cls).before args s' = true := vx_ot_at hW0 hvm.symm (hgood _ (List.mem_cons_of_mem _ List.mem_cons_self)) hini
  have hU' : vx_Zq Bundle.tN "UNASSIGNED_STACK" Bundle.steD A s' s'.heap := by rw [hhp]; exact vx_Zq.moved hW0.alike (hU.kept hS.2.1)
  have hN' : vx_Zq Bundle.tN "SUPPRESSED_SENTINEL" Bundle.listD A s' s'.heap := by rw [hhp]; exact vx_Zq.moved hW0.alike (hN.kept hS.2.1)
  have h : ∀ w ∈ Bundle.ownAtoms0 own ic cls names, w.before args s' = true := vx_own hat' (vx_isRefq hU'.1) (vx_isRefq hN'.1) hU'.2.word hN'.2.word
  have hown' : s'.vm.findClass own = some m.cls := by rw [hvm]; exact hown
  have hins : (Cond.instantiable cls 6).before args s' = true := h _ (by simp [Bundle.ownAtoms0])
  obtain ⟨vm₁, cX, kX, hfX, hkX, -, -, X₁, st1⟩ := Y.newCold hexec (own := own) (C := cls) (index := ik) (n := 6) hown' hk' hins hini'
    (g := F0 m pc ls rest) rfl (by rw [hb]; exact d0) (Nat.le_refl _) (Nat.le_refl _)
  generalize hT1 : (T.setVm vm₁).pushCell { cls := cX, slots := kX.instanceTypes.map defaultValue, vm := .none } = T1 at X₁ st1
  have hcat : (Value.ref T.heap.size).category = 1 := rfl
  have hcellA : T1.heap[T.heap.size]? = some (freshCell cX kX) := by rw [← hT1]; exact State.heap_pushCell_size _ _
  have d3' : decode c.code (pc + 3) = .ok (.dup, 1) := by rw [hb]; exact d3
  obtain ⟨U, hsteps, hrun, hend, hW, hsame, ce, hce, hO⟩ := X₁.ctorThrow0 hexec htr (own := own) (cls := cls) (names := names) (ic := ic) hown' hcls hnames h (fun x hx => nomatch hx) hfX hkX hcellA (by rw [hhp, hT]; exact Nat.le_refl _)
    (g := { method := m, pc := pc + 4, locals := ls, stack := .ref T.heap.size :: .ref T.heap.size :: rest, locked := none }) rfl hsize rfl rfl (rest := rest) rfl
    (by rw [hb]; exact d4) (by rw [hb]; exact d7) hout hRframes (by simp only [List.map_cons, List.sum_cons, hcat]; omega) hlocks
  obtain ⟨f1, f2⟩ := vx_frame hsame
  rw [hhp] at f1 f2
  have hWs : s.WarmedH U.vm := State.WarmedH.trans hW0 hW
  have hcl : s.vm.findClass cls = some ce.cls := by
    have h9 := hO.cls
    rw [hvm] at h9
    exact h9
  have hsz1 : U.heap.size = H.size + 1 := by
    have q1 := (Array.getElem?_eq_some_iff.mp hce).1
    have q2 : U.heap.size ≤ s'.heap.size + (0 + 1) := hsame.2.2.1
    rw [hhp] at q2
    rw [hT] at q1
    omega
  have hall : s.sameButNew ({ U with vm := s.vm } : State) locs mc ms := by
    subst hA
    obtain ⟨e1, e2⟩ := hsame
    rw [State.setFrames_setFrames] at e1
    have h2 : (T.setVm s.vm).sameButNew ({ U with vm := s.vm } : State) [] (0 + 1) (0 + 6) := ⟨e1, e2⟩
    have h3 := X.same.trans h2
    rw [List.append_nil] at h3
    exact h3.mono hc hs
  refine ⟨U, ?_, .threw T.heap.size, hrun, hend, Or.inr ⟨T.heap.size, rfl, cls, ce, locs, hx U hWs.alike hsz1 (fun q hq => f2 q hq (fun z hz => nomatch hz)) ⟨ce, by rw [← hT]; exact hce, hO.vm, hcl⟩, hce, hO.vm, hcl, hWs, hall, hf⟩⟩
  refine st1 _ ?_
  show Steps p.tables e below (T1.setTop { method := m, pc := pc + 3, locals := ls, stack := .ref T.heap.size :: rest, locked := none }) _
  jvm_step X₁.here [X₁.here.top, hexec, d3', Value.category]
  exact hsteps
end Ends
