/-! calls, ends, and the whole: what the pure machine says, the machine does -/
theorem lg_len (vs : List Value) : (lg_sl vs).length = (vs.map fun v => v.category).sum := by
  induction vs with
  | nil => rfl
  | cons v vs ih =>
    simp only [lg_sl, List.flatMap_cons, List.length_append, List.map_cons, List.sum_cons] at ih ⊢
    rw [ih]
    rcases lv_cat v with q | q <;> simp [q]
theorem pM_le : ∀ x, x < 296 → pM x ≤ 12 := by
  have h : (List.range 296).all (fun x => Nat.ble (pM x) 12) = true := by decide +kernel
  exact fun x hx => Nat.ble_eq.mp (List.all_eq_true.mp h x (List.mem_range.mpr hx))
theorem pY_plain : ∀ x, x < 296 → plainName (pY x).cls = true := by
  have h : (List.range 296).all (fun x => plainName (pY x).cls) = true := by decide +kernel
  exact fun x hx => List.all_eq_true.mp h x (List.mem_range.mpr hx)
theorem pCode (x : Nat) (hx : x < 296) : Cond.code (pY x) (pB x) (pM x) (pR x) ∈ gt := gt_mem (List.mem_of_getElem? (cw_all x hx)) rfl
section MAIN
variable {l : Launch} {TX : State → Prop} {z0 : Nat} {g : Nat → Nat} {D : va_G} {dT : Nat → ClassId} {sc : aS}
def Snd (l : Launch) (TX : State → Prop) (z0 : Nat) (g : Nat → Nat) (D : va_G) (dT : Nat → ClassId) (sc : aS) (n : Nat) : Prop :=
  ∀ (d mid pc : Nat) (L : aL) (S : List Value) (h : aH) (r : Option Value) (h' : aH), ev sc n d mid pc L S h = some (r, h') →
  (h.length ≤ h'.length ∧ hz h ≤ hz h') ∧ ∀ (p : Program) (e : Env) (R : Room) (s : State) (m : MethodId) (args : Array Value) (below : List Frame) (meth : Method) (c : Code) (H : Heap) (locs : List Loc) (cells slots : Nat) (ls : Array Slot),
    Cx mid p s m args meth c → Wd TX z0 g D dT sc s → va_S (fun q => z0 ≤ q) s.heap H locs → Rp z0 g D dT h H → lv_has ls (pM mid) (L.map (fun q => (q.1, cv g q.2))) → d ≤ R.frames → 41 * d ≤ R.locals →
    cells + (h'.length - h.length) ≤ R.cells → slots + (hz h' - hz h) ≤ R.slots →
    W p l e R s m args below meth c H locs cells slots (MQ below (mQc z0 g D dT r h') args s (cells + (h'.length - h.length)) (slots + (hz h' - hz h)) (fun q => z0 ≤ q)) (F0 m pc ls (S.map (cv g)))
theorem met_of {n d x : Nat} {av : List Value} {h h1 : aH} {v : Option Value} (hSn : Snd l TX z0 g D dT sc n) (hev : ev sc n d x 0 (lv_args 0 av) [] h = some (v, h1)) (hx9 : x < 296) (hav : (av.map fun v => v.category).sum ≤ pM x) :
    Met l (pY x) (Cond.code (pY x) (pB x) (pM x) (pR x) :: gt) (rmOf d (h1.length - h.length) (hz h1 - hz h)) (mPc TX z0 g D dT sc av h) (mQc z0 g D dT v h1) (h1.length - h.length) (hz h1 - hz h) (fun q => z0 ≤ q) := by
  refine Met.ofW (cc := pB x) (maxL := pM x) (ret := pR x) (pY_plain x hx9) rfl ?_
  intro p e s m args below meth c s₁ B hml hv0
  obtain ⟨rfl, hRp, hWd⟩ := hv0
  have hts := atoms_spec (ws := Cond.code (pY x) (pB x) (pM x) (pR x) :: gt) B.pre
  have hown : s.vm.findClass (pY x).cls = some m.cls := findClass_of_methodNamed B.named
  have hnm : meth.name = (pY x).name := (name_of_methodNamed B.named B.method).1
  have hl := lv_entry (av.map (cv g)) (n := pM x) (by rw [lg_sl_cv, lg_len]; exact hav)
  rw [lv_args_cv] at hl
  rw [lg_entry_eq]
  generalize (lg_sl (av.map (cv g)) ++ List.replicate (pM x - (lg_sl (av.map (cv g))).length) Slot.unset).toArray = ls at hl ⊢
  have K := (hSn d x 0 _ _ h v h1 hev).2 p e (rmOf d (h1.length - h.length) (hz h1 - hz h)) s m _ below meth c s.heap [] 0 0 ls ⟨B.exec, B.bytes, B.returns, B.notSynchronized, hml, hown, fun w hw => hts w (List.mem_cons_of_mem _ hw), fun q => hnm.trans q⟩ hWd va_S.rf hRp hl (Nat.le_refl _) (Nat.le_refl _) (by rw [Nat.zero_add]; exact Nat.le_refl _) (by rw [Nat.zero_add]; exact Nat.le_refl _)
  rw [Nat.zero_add, Nat.zero_add] at K
  exact K
theorem mPc_blind (hT : TxOk z0 TX) {av : List Value} {h : aH} : FrameBlind (mPc TX z0 g D dT sc av h) := fun a U gf mk q => ⟨q.1, q.2.1, Wd.moved (U := U.calling gf mk a) hT q.2.2 (State.WarmedH.refl U) (Nat.le_refl _) (fun _ _ _ => rfl)⟩
section CALL
variable {p : Program} {e : Env} {R : Room} {s : State} {m : MethodId} {args : Array Value} {below : List Frame} {meth : Method} {c : Code} {H : Heap} {locs : List Loc} {cells slots : Nat} {Q : State → Prop}
variable {ls : Array Slot} {mid pc x y : Nat} {i : Instr} {ws : List Nat} {S S' : List Value} {h h' : aH}
theorem snd_ret (C0 : Cx mid p s m args meth c) (hS : va_S (fun q => z0 ≤ q) s.heap H locs) (hR : Rp z0 g D dT h H) (hd : decode (pB mid) pc = .ok (i, e_len i)) {v : Option Value} (he : e_ret mid i S = some v) :
    W p l e R s m args below meth c H locs cells slots (MQ below (mQc z0 g D dT v h) args s cells slots (fun q => z0 ≤ q)) (F0 m pc ls (S.map (cv g))) := by
  obtain ⟨hx, hb, hr, hlocks, hml, hown, hts, hin0⟩ := C0
  unfold e_ret at he
  split at he
  · split at he
    · rename_i hn
      cases he
      exact W.vret hx hb (hr.trans hn) (fun t ht _ => ⟨rfl, by rw [ht]; exact hR, hS.F ht⟩) hS.2.2 hd (hlocks := hlocks)
    · cases he
  · split at he
    · rename_i hn
      cases he
      exact W.iret hx hb (hr.trans hn) (fun t ht _ => ⟨rfl, by rw [ht]; exact hR, hS.F ht⟩) hS.2.2 hd (hlocks := hlocks)
    · rename_i v hn
      split at he
      · rename_i hv
        cases he
        exact W.zret hx hb (hr.trans hn) (by rcases hv with rfl | rfl <;> rfl) (fun t ht _ => ⟨rfl, by rw [ht]; exact hR, hS.F ht⟩) hS.2.2 hd (hlocks := hlocks)
      · cases he
    · cases he
  · cases he
theorem snd_run {mc ms : Nat} {st0 rest : List Value} {v : Option Value} {h1 : aH} {a : Array Value} (hr : va_Run p l e R s m args below meth c H locs cells slots mc ms (F0 m pc ls st0) rest (mQc z0 g D dT v h1 a) (fun q => z0 ≤ q)) (hS : va_S (fun q => z0 ≤ q) s.heap H locs)
    (kk : ∀ (H1 : Heap) (locs1 : List Loc), va_S (fun q => z0 ≤ q) s.heap H1 locs1 → Rp z0 g D dT h1 H1 → W p l e R s m args below meth c H1 locs1 (cells + mc) (slots + ms) Q (F0 m (pc + 3) ls ((v.map (cv g)).toList ++ rest))) : W p l e R s m args below meth c H locs cells slots Q (F0 m pc ls st0) := by
  intro T hT X
  obtain ⟨v', st₀, t, T', L, h0, X', hL, e1, e2, ⟨hv, hRp, hz, hk⟩, st⟩ := hr T hT X
  have hv2 : v' = v.map (cv g) := by injection hv
  subst hv2
  rw [h0] at hz hk
  obtain ⟨t2, a1, b1⟩ := kk T'.heap (locs ++ L) ⟨Nat.le_trans hS.1 (by rw [e1]; exact hz), fun q h1 h2 => by rw [e1, hk q (Nat.lt_of_lt_of_le h1 hS.1) h2]; exact hS.2.1 q h1 h2, fun q hq => by
      rcases List.mem_append.mp hq with h | h
      · exact hS.2.2 q h
      · exact hL q h⟩ (by rw [e1]; exact hRp) T' rfl X'
  exact ⟨t2, st t2 a1, b1⟩
theorem ckL_inv {own : String} {ix w ne : Nat} {q : MethodName} (h : ckL own ix q w ne = true) : Cond.methodLink own ix q ∈ gt ∨ Cond.methodLinkNest own ix q "SlotBuses" ∈ gt := by
  unfold ckL at h
  split at h
  · exact Or.inl (ckW_mem h)
  · exact Or.inr (ckW_mem h)
theorem ckD_inv {q : MethodName} {n : Nat} (h : ckD q n = true) : (∀ sig, parseMethodDescriptor q.desc = some sig → n = sig.parameters.length) ∧ (q.cls ≠ "java/lang/invoke/MethodHandle" ∧ q.cls ≠ "java/lang/invoke/VarHandle") := by
  simp only [ckD, Bool.and_eq_true, decide_eq_true_eq] at h
  obtain ⟨⟨h1, h2⟩, h3⟩ := h
  refine ⟨fun sig hs => ?_, h2, h3⟩
  rw [hs] at h1
  exact (Option.some.inj h1).symm
theorem take_split {S As rest : List Value} {y : Nat} {b : Value} (hy : y ≤ S.length) (h : (S.take y).reverse = b :: As) : As.length + 1 = y ∧ S = As.reverse ++ b :: S.drop y := by
  have h1 : S.take y = As.reverse ++ [b] := by rw [← List.reverse_reverse (S.take y), h, List.reverse_cons]
  refine ⟨?_, ?_⟩
  · have := congrArg List.length h1
    rw [List.length_take, Nat.min_eq_left hy, List.length_append, List.length_reverse] at this
    simp at this
    omega
  · conv => lhs; rw [← List.take_append_drop y S, h1, List.append_assoc]
    rfl
theorem snd_call {n d' : Nat} {v : Option Value} {h1 : aH} (hT : TxOk z0 TX) (hg : ∀ i, g (32 + i) = z0 + i) (hSn : Snd l TX z0 g D dT sc n) (C0 : Cx mid p s m args meth c) (hw : Wd TX z0 g D dT sc s) (hS : va_S (fun q => z0 ≤ q) s.heap H locs) (hR : Rp z0 g D dT h H) (hls : ls.size = pM mid)
    (hd : decode (pB mid) pc = .ok (i, e_len i)) (hk : ckX mid pc i x y ws = true) (hx9 : Nat.blt x 1000 = true) (hyl : y ≤ S.length) (hcat : e_cat (S.drop y) = true) (hrcv : e_rcv i x (S.take y).reverse h = true) (hsum : ((S.take y).map fun v => v.category).sum ≤ pM x)
    (hev : ev sc n d' x 0 (lv_args 0 (S.take y).reverse) [] h = some (v, h1)) (hf : d' + 1 ≤ R.frames) (hlo : 41 * (d' + 1) ≤ R.locals) (hrc : cells + (h1.length - h.length) ≤ R.cells) (hrs : slots + (hz h1 - hz h) ≤ R.slots)
    (kk : ∀ (H1 : Heap) (locs1 : List Loc), va_S (fun q => z0 ≤ q) s.heap H1 locs1 → Rp z0 g D dT h1 H1 → W p l e R s m args below meth c H1 locs1 (cells + (h1.length - h.length)) (slots + (hz h1 - hz h)) Q (F0 m (pc + e_len i) ls ((v.toList ++ S.drop y).map (cv g)))) : W p l e R s m args below meth c H locs cells slots Q (F0 m pc ls (S.map (cv g))) := by
  have hw1 := hw
  obtain ⟨hx, hb, hr, hlocks, hml, hown, hts, hin0⟩ := C0
  obtain ⟨hK, hz0, hAO, hRO, hSt, hTxt, hTX⟩ := hw
  have hcat' : (((S.drop y).map (cv g)).map fun v => v.category).sum ≤ 8 := by
    rw [List.map_map, show ((fun v => Value.category v) ∘ cv g) = (fun v => v.category) from funext (cv_cat g)]
    simpa [e_cat] using hcat
  have hsum' : (((S.take y).reverse).map fun v => v.category).sum ≤ pM x := by
    rw [List.map_reverse, List.sum_reverse]; exact hsum
  have hkk : ∀ (H1 : Heap) (locs1 : List Loc), va_S (fun q => z0 ≤ q) s.heap H1 locs1 → Rp z0 g D dT h1 H1 → W p l e R s m args below meth c H1 locs1 (cells + (h1.length - h.length)) (slots + (hz h1 - hz h)) Q (F0 m (pc + e_len i) ls ((v.map (cv g)).toList ++ (S.drop y).map (cv g))) := by
    intro H1 locs1 a1 a2
    have := kk H1 locs1 a1 a2
    rw [List.map_append] at this
    cases v <;> exact this
  have hpc : ∀ U : State, U.heap = H → s.WarmedH U.vm → mPc TX z0 g D dT sc (S.take y).reverse h ((S.take y).reverse.map (cv g)).toArray U := fun U hU hW => ⟨rfl, by rw [hU]; exact hR, Wd.moved hT hw1 hW (by rw [hU]; exact hS.1) (fun q q1 q2 => by rw [hU]; exact hS.2.1 q q1 q2)⟩
  have hcb : x < 296 → ∀ w ∈ (Cond.code (pY x) (pB x) (pM x) (pR x) :: gt), ∀ (a' : Array Value) (U : State), s.WarmedH U.vm → w.before a' U = true := by
    intro hx6 w hw a' U hW
    rcases List.mem_cons.mp hw with rfl | hw
    · exact gt_pay hts hW _ (pCode x hx6)
    · exact gt_pay hts hW _ hw
  unfold e_rcv at hrcv
  split at hrcv
  · rename_i ix
    simp only [ckX, hx9, cond_true] at hk
    split at hk
    · rename_i w ne w1 w3
      simp only [Bool.and_eq_true] at hk
      obtain ⟨⟨⟨⟨k1, k2⟩, k3⟩, k4⟩, k5⟩ := hk
      have hx6 := Nat.blt_eq.mp k1
      have hpm := pM_le x hx6
      obtain ⟨d1, d2⟩ := ckD_inv k2
      have hM := met_of hSn hev hx6 hsum'
      have hlen : ((S.take y).reverse.map (cv g)).length = y := by rw [List.length_map, List.length_reverse, List.length_take, Nat.min_eq_left hyl]
      have hst : S.map (cv g) = ((S.take y).reverse.map (cv g)).reverse ++ (S.drop y).map (cv g) := by
        rw [← List.map_reverse, List.reverse_reverse, ← List.map_append, List.take_append_drop]
      rcases ckL_inv k3 with hl | hl
      · exact snd_run (va_runS (As := (S.take y).reverse.map (cv g)) (rest := (S.drop y).map (cv g)) ⟨hx, hb, hml, hown, hts⟩ hM ⟨⟨rfl, rfl, hf, by show 8 + (pM x + 11) + 41 * d' ≤ _; omega, hcb hx6, List.mem_cons_self, hts _ (pCode x hx6), hts _ (ckW_mem k5), d2, d1, hts _ hl⟩, hts _ (ckW_mem k4)⟩ ⟨mPc_blind hT, hpc⟩ rfl hlen hls hst (lv_room hcat') hd ⟨hrc, hrs⟩) hS hkk
      · exact snd_run (va_runSN (As := (S.take y).reverse.map (cv g)) (rest := (S.drop y).map (cv g)) ⟨hx, hb, hml, hown, hts⟩ hM ⟨⟨⟨rfl, rfl, hf, by show 8 + (pM x + 11) + 41 * d' ≤ _; omega, hcb hx6, List.mem_cons_self⟩, hts _ (pCode x hx6), hts _ (ckW_mem k5), d2, d1, hts _ hl⟩, hts _ (ckW_mem k4), trivial⟩ ⟨mPc_blind hT, hpc⟩ rfl hlen hls hst (lv_room hcat') hd ⟨hrc, hrs⟩) hS hkk
    · cases hk
  · rename_i ix
    split at hrcv
    · rename_i b As hav
      simp only [ckX, hx9, cond_true] at hk
      split at hk
      · rename_i w ne w1 w3
        simp only [Bool.and_eq_true, decide_eq_true_eq] at hk
        obtain ⟨⟨⟨⟨⟨⟨⟨k1, k0⟩, k2⟩, k3⟩, k4⟩, k5⟩, k6⟩, k7⟩ := hk
        have hx6 := Nat.blt_eq.mp k1
        have hpm := pM_le x hx6
        obtain ⟨d1, d2⟩ := ckD_inv k2
        obtain ⟨hl9, hS9⟩ := take_split (rest := []) hyl hav
        have hM := met_of hSn hev hx6 hsum'
        rw [hav] at hpc hM
        rw [k7] at hM
        have hcb' := hcb hx6
        have hco := hts _ (pCode x hx6)
        rw [k7] at hcb' hco
        have hst : S.map (cv g) = (As.map (cv g)).reverse ++ .ref (g b) :: (S.drop y).map (cv g) := by
          conv => lhs; rw [hS9]
          rw [List.map_append, List.map_reverse, List.map_cons]
          rfl
        have hlen : (As.map (cv g)).length = y - 1 := by rw [List.length_map]; omega
        rcases ckL_inv k3 with hl | hl
        · exact snd_run (va_runI (As := As.map (cv g)) (b := g b) (rest := (S.drop y).map (cv g)) ⟨hx, hb, hml, hown, hts⟩ hM ⟨⟨rfl, rfl, hf, by show 8 + (pM x + 11) + 41 * d' ≤ _; omega, hcb', List.mem_cons_self, hco, hts _ (ckW_mem k5), d2, d1, hts _ hl⟩, k6, hts _ (ckW_mem k4)⟩ ⟨mPc_blind hT, hpc⟩ rfl hlen hls hst (lv_room hcat') hd ⟨hrc, hrs⟩) hS hkk
        · exact snd_run (va_runIN (As := As.map (cv g)) (b := g b) (rest := (S.drop y).map (cv g)) ⟨hx, hb, hml, hown, hts⟩ hM ⟨⟨⟨rfl, rfl, hf, by show 8 + (pM x + 11) + 41 * d' ≤ _; omega, hcb', List.mem_cons_self⟩, hco, hts _ (ckW_mem k5), d2, d1, hts _ hl⟩, k6, hts _ (ckW_mem k4)⟩ ⟨mPc_blind hT, hpc⟩ rfl hlen hls hst (lv_room hcat') hd ⟨hrc, hrs⟩) hS hkk
      · cases hk
    · cases hrcv
  · rename_i ix
    split at hrcv
    · rename_i b As hav
      have hx7 : Nat.blt 999 x = false := by
        cases hq : Nat.blt 999 x with
        | false => rfl
        | true =>
          have q1 := Nat.blt_eq.mp hq
          have q2 := Nat.blt_eq.mp hx9
          omega
      rw [hx7] at hrcv
      simp only [cond_false] at hrcv
      split at hrcv
      · rename_i ci fs hcb0
        have hci := Nat.eq_of_beq_eq_true hrcv
        subst hci
        obtain ⟨j, rfl, -, hj⟩ := e_c_inv hcb0
        simp only [ckX, hx9, cond_true] at hk
        split at hk
        · rename_i w ne w1 w2 w3
          simp only [Bool.and_eq_true, decide_eq_true_eq] at hk
          obtain ⟨⟨⟨⟨⟨⟨⟨k1, k0⟩, k2⟩, k3⟩, k4⟩, k5⟩, k6⟩, k7⟩ := hk
          have hx6 := Nat.blt_eq.mp k1
          have hpm := pM_le x hx6
          obtain ⟨d1, d2⟩ := ckD_inv k2
          obtain ⟨hl9, hS9⟩ := take_split (rest := []) hyl hav
          have hM := met_of hSn hev hx6 hsum'
          rw [hav] at hpc hM
          obtain ⟨q, hq, hq1⟩ := Option.map_eq_some_iff.mp k7
          have hrec := va_recv hK (va_P.one (hR.2 j _ hj)) hq (q0 := 0) rfl
          rw [hq1, ← hg j] at hrec
          have hst : S.map (cv g) = (As.map (cv g)).reverse ++ .ref (g (32 + j)) :: (S.drop y).map (cv g) := by
            conv => lhs; rw [hS9]
            rw [List.map_append, List.map_reverse, List.map_cons]
            rfl
          have hlen : (As.map (cv g)).length = y - 1 := by rw [List.length_map]; omega
          rcases ckL_inv k3 with hl | hl
          · exact snd_run (va_runV (As := As.map (cv g)) (b := g (32 + j)) (C := (pY x).cls) (rest := (S.drop y).map (cv g)) ⟨hx, hb, hml, hown, hts⟩ hM ⟨⟨rfl, rfl, hf, by show 8 + (pM x + 11) + 41 * d' ≤ _; omega, hcb hx6, List.mem_cons_self, hts _ (pCode x hx6), hts _ (ckW_mem k6), d2, d1, hts _ hl⟩, hts _ (ckW_mem k4), hts _ (ckW_mem k5)⟩ ⟨mPc_blind hT, hrec, hpc⟩ rfl hlen hls hst (lv_room hcat') hd ⟨hrc, hrs⟩) hS hkk
          · exact snd_run (va_runVN (As := As.map (cv g)) (b := g (32 + j)) (C := (pY x).cls) (rest := (S.drop y).map (cv g)) ⟨hx, hb, hml, hown, hts⟩ hM ⟨⟨⟨rfl, rfl, hf, by show 8 + (pM x + 11) + 41 * d' ≤ _; omega, hcb hx6, List.mem_cons_self⟩, hts _ (pCode x hx6), hts _ (ckW_mem k6), d2, d1, hts _ hl⟩, hts _ (ckW_mem k4), hts _ (ckW_mem k5)⟩ ⟨mPc_blind hT, hrec, hpc⟩ rfl hlen hls hst (lv_room hcat') hd ⟨hrc, hrs⟩) hS hkk
        · cases hk
      · cases hrcv
    · cases hrcv
  · cases hrcv
end CALL
end MAIN
