/-! THE SOUND RUNS ONCE MORE, with room to spare below the law itself: its helper 'line' throws and catches -/
def e_inv (i : Instr) : Bool := match i with
  | .invokestatic _ => true
  | .invokespecial _ => true
  | .invokevirtual _ => true
  | _ => false
def e_s42 (i : Instr) : Bool := match i with
  | .invokestatic ix => Nat.beq ix 42
  | _ => false
def e_pp (k : Nat) (q : Nat × aI × List Nat) : Bool := !(Nat.beq q.2.1.2.2.1 1007) || !(e_inv q.2.1.1) || (Nat.beq k 296 && Nat.beq q.1 419 && e_s42 q.2.1.1 && Nat.beq q.2.1.2.2.2 6)
set_option maxRecDepth 100000 in
theorem pp_lo : (List.range 297).all (fun k => (pL k).all (e_pp k)) = true := by decide +kernel
theorem pL_hi {k : Nat} (h : 297 ≤ k) : pL k = [] := by
  have h1 : ∀ c : Nat, c ≤ 297 → Nat.blt k c = false := fun c hc => by
    cases hb : Nat.blt k c with
    | false => rfl
    | true => exact absurd (Nat.blt_eq.mp hb) (by omega)
  have h2 : ∀ c : Nat, c ≤ 296 → Nat.beq k c = false := fun c hc => by
    cases hb : Nat.beq k c with
    | false => rfl
    | true => exact absurd (Nat.eq_of_beq_eq_true hb) (by omega)
  unfold pL
  simp (disch := decide) only [h1, h2, cond_false]
theorem pp_all {k : Nat} {q : Nat × aI × List Nat} (h : q ∈ pL k) : e_pp k q = true := by
  by_cases hk : k < 297
  · exact List.all_eq_true.mp (List.all_eq_true.mp pp_lo k (List.mem_range.mpr hk)) q h
  · rw [pL_hi (by omega)] at h
    cases h
theorem e_rcv_inv {i : Instr} {x : Nat} {av : List Value} {h : aH} (hr : e_rcv i x av h = true) : e_inv i = true := by
  unfold e_rcv at hr
  split at hr
  · rfl
  · rfl
  · rfl
  · cases hr
theorem line_at {mid pc nx y : Nat} {i : Instr} {av : List Value} {h : aH} (hp : pT mid pc = some (i, nx, 1007, y)) (hr : e_rcv i 1007 av h = true) : mid = 296 ∧ pc = 419 ∧ i = .invokestatic 42 ∧ y = 6 := by
  unfold pT at hp
  cases hf : (pL mid).find? (fun q => q.1 == pc) with
  | none => rw [hf] at hp; cases hp
  | some q =>
    rw [hf] at hp
    obtain ⟨pc', t, ws⟩ := q
    have h1 : t = (i, nx, 1007, y) := Option.some.inj hp
    subst h1
    have h2 : pc' = pc := by simpa using List.find?_some hf
    subst h2
    have h3 := pp_all (List.mem_of_find?_eq_some hf)
    have h4 := e_rcv_inv hr
    simp only [e_pp, h4, Bool.or_eq_true, Bool.and_eq_true, Bool.not_true, Bool.false_eq_true, or_false, false_or, Bool.not_eq_true'] at h3
    rcases h3 with h3 | ⟨⟨⟨a1, a2⟩, a3⟩, a4⟩
    · cases h3
    · refine ⟨Nat.eq_of_beq_eq_true a1, Nat.eq_of_beq_eq_true a2, ?_, Nat.eq_of_beq_eq_true a4⟩
      unfold e_s42 at a3
      split at a3
      · rw [Nat.eq_of_beq_eq_true a3]
      · cases a3
def e_sl (mid : Nat) : Nat := bif Nat.beq mid 296 then 20 else 0
theorem e_sl_lo {x : Nat} (h : x < 296) : e_sl x = 0 := by
  unfold e_sl
  cases hb : Nat.beq x 296 with
  | false => rfl
  | true => exact absurd (Nat.eq_of_beq_eq_true hb) (by omega)
section MAIN2
variable {l : Launch} {TX : State → Prop} {z0 : Nat} {g : Nat → Nat} {D : va_G} {dT : Nat → ClassId} {sc : aS}
def Snd2 (l : Launch) (TX : State → Prop) (z0 : Nat) (g : Nat → Nat) (D : va_G) (dT : Nat → ClassId) (sc : aS) (n : Nat) : Prop :=
  ∀ (d mid pc : Nat) (L : aL) (S : List Value) (h : aH) (r : Option Value) (h' : aH), ev sc n d mid pc L S h = some (r, h') →
  (h.length ≤ h'.length ∧ hz h ≤ hz h') ∧ ∀ (p : Program) (e : Env) (R : Room) (s : State) (m : MethodId) (args : Array Value) (below : List Frame) (meth : Method) (c : Code) (H : Heap) (locs : List Loc) (cells slots : Nat) (ls : Array Slot),
    Cx mid p s m args meth c → Wd TX z0 g D dT sc s → va_S (fun q => z0 ≤ q) s.heap H locs → Rp z0 g D dT h H → lv_has ls (pM mid) (L.map (fun q => (q.1, cv g q.2))) → d + e_sl mid ≤ R.frames → 41 * (d + e_sl mid) ≤ R.locals →
    cells + (h'.length - h.length) ≤ R.cells → slots + (hz h' - hz h) ≤ R.slots →
    W p l e R s m args below meth c H locs cells slots (MQ below (mQc z0 g D dT r h') args s (cells + (h'.length - h.length)) (slots + (hz h' - hz h)) (fun q => z0 ≤ q)) (F0 m pc ls (S.map (cv g)))
theorem met_of2 {n d x : Nat} {av : List Value} {h h1 : aH} {v : Option Value} (hSn : Snd2 l TX z0 g D dT sc n) (hev : ev sc n d x 0 (lv_args 0 av) [] h = some (v, h1)) (hx9 : x < 296) (hav : (av.map fun v => v.category).sum ≤ pM x) :
    Met l (pY x) (Cond.code (pY x) (pB x) (pM x) (pR x) :: gt) (rmOf d (h1.length - h.length) (hz h1 - hz h)) (mPc TX z0 g D dT sc av h) (mQc z0 g D dT v h1) (h1.length - h.length) (hz h1 - hz h) (fun q => z0 ≤ q) := by
  refine Met.ofW (cc := pB x) (maxL := pM x) (ret := pR x) (pY_plain x hx9) rfl ?_
  intro p e s m args below meth c s₁ B hml hv0
  obtain ⟨rfl, hRp, hWd⟩ := hv0
  have hts := atoms_spec (ws := Cond.code (pY x) (pB x) (pM x) (pR x) :: gt) B.pre
  have hown : s.vm.findClass (pY x).cls = some m.cls := findClass_of_methodNamed B.named
  have hnm : meth.name = (pY x).name := (name_of_methodNamed B.named B.method).1
  have hl := lv_entry (av.map (cv g)) (n := pM x) (by rw [lg_sl_cv, lg_len]; exact hav)
  rw [lv_args_cv] at hl
  rw [lg_entry_eq]
  generalize (lg_sl (av.map (cv g)) ++ List.replicate (pM x - (lg_sl (av.map (cv g))).length) Slot.unset).toArray = ls at hl ⊢
  have K := (hSn d x 0 _ _ h v h1 hev).2 p e (rmOf d (h1.length - h.length) (hz h1 - hz h)) s m _ below meth c s.heap [] 0 0 ls ⟨B.exec, B.bytes, B.returns, B.notSynchronized, hml, hown, fun w hw => hts w (List.mem_cons_of_mem _ hw), fun q => hnm.trans q⟩ hWd va_S.rf hRp hl (by rw [e_sl_lo hx9]; exact Nat.le_refl _) (by rw [e_sl_lo hx9]; exact Nat.le_refl _) (by rw [Nat.zero_add]; exact Nat.le_refl _) (by rw [Nat.zero_add]; exact Nat.le_refl _)
  rw [Nat.zero_add, Nat.zero_add] at K
  exact K
section CALL
variable {p : Program} {e : Env} {R : Room} {s : State} {m : MethodId} {args : Array Value} {below : List Frame} {meth : Method} {c : Code} {H : Heap} {locs : List Loc} {cells slots : Nat} {Q : State → Prop}
variable {ls : Array Slot} {mid pc x y : Nat} {i : Instr} {ws : List Nat} {S S' : List Value} {h h' : aH}
theorem snd_call2 {n d' : Nat} {v : Option Value} {h1 : aH} (hT : TxOk z0 TX) (hg : ∀ i, g (32 + i) = z0 + i) (hSn : Snd2 l TX z0 g D dT sc n) (C0 : Cx mid p s m args meth c) (hw : Wd TX z0 g D dT sc s) (hS : va_S (fun q => z0 ≤ q) s.heap H locs) (hR : Rp z0 g D dT h H) (hls : ls.size = pM mid)
    (hd : decode (pB mid) pc = .ok (i, e_len i)) (hk : ckX mid pc i x y ws = true) (hx9 : Nat.blt x 1000 = true) (hyl : y ≤ S.length) (hcat : e_cat (S.drop y) = true) (hrcv : e_rcv i x (S.take y).reverse h = true) (hsum : ((S.take y).map fun v => v.category).sum ≤ pM x)
    (hev : ev sc n d' x 0 (lv_args 0 (S.take y).reverse) [] h = some (v, h1)) (hf : d' + 1 ≤ R.frames) (hlo : 41 * (d' + 1) ≤ R.locals) (hrc : cells + (h1.length - h.length) ≤ R.cells) (hrs : slots + (hz h1 - hz h) ≤ R.slots)
    (kk : ∀ (H1 : Heap) (locs1 : List Loc), va_S (fun q => z0 ≤ q) s.heap H1 locs1 → Rp z0 g D dT h1 H1 → W p l e R s m args below meth c H1 locs1 (cells + (h1.length - h.length)) (slots + (hz h1 - hz h)) Q (F0 m (pc + e_len i) ls ((v.toList ++ S.drop y).map (cv g)))) : W p l e R s m args below meth c H locs cells slots Q (F0 m pc ls (S.map (cv g))) := by
  have hw1 := hw
  obtain ⟨hx, hb, hr, hlocks, hml, hown, hts, hin0⟩ := C0
  obtain ⟨hK, hz0, hAO, hRO, hSt, hTxt, hTX⟩ := hw
  have hcat' : (((S.drop y).map (cv g)).map fun v => v.category).sum ≤ 8 := by
    rw [List.map_map, show ((fun v => Value.category v) ∘ cv g) = (fun v => v.category) from funext (cv_cat g)]
    simpa [e_cat] using hcat
  have hsum' : (((S.take y).reverse).map fun v => v.category).sum ≤ pM x := by
    rw [List.map_reverse, List.sum_reverse]; exact hsum
  have hkk : ∀ (H1 : Heap) (locs1 : List Loc), va_S (fun q => z0 ≤ q) s.heap H1 locs1 → Rp z0 g D dT h1 H1 → W p l e R s m args below meth c H1 locs1 (cells + (h1.length - h.length)) (slots + (hz h1 - hz h)) Q (F0 m (pc + e_len i) ls ((v.map (cv g)).toList ++ (S.drop y).map (cv g))) := by
    intro H1 locs1 a1 a2
    have := kk H1 locs1 a1 a2
    rw [List.map_append] at this
    cases v <;> exact this
  have hpc : ∀ U : State, U.heap = H → s.WarmedH U.vm → mPc TX z0 g D dT sc (S.take y).reverse h ((S.take y).reverse.map (cv g)).toArray U := fun U hU hW => ⟨rfl, by rw [hU]; exact hR, Wd.moved hT hw1 hW (by rw [hU]; exact hS.1) (fun q q1 q2 => by rw [hU]; exact hS.2.1 q q1 q2)⟩
  have hcb : x < 296 → ∀ w ∈ (Cond.code (pY x) (pB x) (pM x) (pR x) :: gt), ∀ (a' : Array Value) (U : State), s.WarmedH U.vm → w.before a' U = true := by
    intro hx6 w hw a' U hW
    rcases List.mem_cons.mp hw with rfl | hw
    · exact gt_pay hts hW _ (pCode x hx6)
    · exact gt_pay hts hW _ hw
  unfold e_rcv at hrcv
  split at hrcv
  · rename_i ix
    simp only [ckX, hx9, cond_true] at hk
    split at hk
    · rename_i w ne w1 w3
      simp only [Bool.and_eq_true] at hk
      obtain ⟨⟨⟨⟨k1, k2⟩, k3⟩, k4⟩, k5⟩ := hk
      have hx6 := Nat.blt_eq.mp k1
      have hpm := pM_le x hx6
      obtain ⟨d1, d2⟩ := ckD_inv k2
      have hM := met_of2 hSn hev hx6 hsum'
      have hlen : ((S.take y).reverse.map (cv g)).length = y := by rw [List.length_map, List.length_reverse, List.length_take, Nat.min_eq_left hyl]
      have hst : S.map (cv g) = ((S.take y).reverse.map (cv g)).reverse ++ (S.drop y).map (cv g) := by
        rw [← List.map_reverse, List.reverse_reverse, ← List.map_append, List.take_append_drop]
      rcases ckL_inv k3 with hl | hl
      · exact snd_run (va_runS (As := (S.take y).reverse.map (cv g)) (rest := (S.drop y).map (cv g)) ⟨hx, hb, hml, hown, hts⟩ hM ⟨⟨rfl, rfl, hf, by show 8 + (pM x + 11) + 41 * d' ≤ _; omega, hcb hx6, List.mem_cons_self, hts _ (pCode x hx6), hts _ (ckW_mem k5), d2, d1, hts _ hl⟩, hts _ (ckW_mem k4)⟩ ⟨mPc_blind hT, hpc⟩ rfl hlen hls hst (lv_room hcat') hd ⟨hrc, hrs⟩) hS hkk
      · exact snd_run (va_runSN (As := (S.take y).reverse.map (cv g)) (rest := (S.drop y).map (cv g)) ⟨hx, hb, hml, hown, hts⟩ hM ⟨⟨⟨rfl, rfl, hf, by show 8 + (pM x + 11) + 41 * d' ≤ _; omega, hcb hx6, List.mem_cons_self⟩, hts _ (pCode x hx6), hts _ (ckW_mem k5), d2, d1, hts _ hl⟩, hts _ (ckW_mem k4), trivial⟩ ⟨mPc_blind hT, hpc⟩ rfl hlen hls hst (lv_room hcat') hd ⟨hrc, hrs⟩) hS hkk
    · cases hk
  · rename_i ix
    split at hrcv
    · rename_i b As hav
      simp only [ckX, hx9, cond_true] at hk
      split at hk
      · rename_i w ne w1 w3
        simp only [Bool.and_eq_true, decide_eq_true_eq] at hk
        obtain ⟨⟨⟨⟨⟨⟨⟨k1, k0⟩, k2⟩, k3⟩, k4⟩, k5⟩, k6⟩, k7⟩ := hk
        have hx6 := Nat.blt_eq.mp k1
        have hpm := pM_le x hx6
        obtain ⟨d1, d2⟩ := ckD_inv k2
        obtain ⟨hl9, hS9⟩ := take_split (rest := []) hyl hav
        have hM := met_of2 hSn hev hx6 hsum'
        rw [hav] at hpc hM
        rw [k7] at hM
        have hcb' := hcb hx6
        have hco := hts _ (pCode x hx6)
        rw [k7] at hcb' hco
        have hst : S.map (cv g) = (As.map (cv g)).reverse ++ .ref (g b) :: (S.drop y).map (cv g) := by
          conv => lhs; rw [hS9]
          rw [List.map_append, List.map_reverse, List.map_cons]
          rfl
        have hlen : (As.map (cv g)).length = y - 1 := by rw [List.length_map]; omega
        rcases ckL_inv k3 with hl | hl
        · exact snd_run (va_runI (As := As.map (cv g)) (b := g b) (rest := (S.drop y).map (cv g)) ⟨hx, hb, hml, hown, hts⟩ hM ⟨⟨rfl, rfl, hf, by show 8 + (pM x + 11) + 41 * d' ≤ _; omega, hcb', List.mem_cons_self, hco, hts _ (ckW_mem k5), d2, d1, hts _ hl⟩, k6, hts _ (ckW_mem k4)⟩ ⟨mPc_blind hT, hpc⟩ rfl hlen hls hst (lv_room hcat') hd ⟨hrc, hrs⟩) hS hkk
        · exact snd_run (va_runIN (As := As.map (cv g)) (b := g b) (rest := (S.drop y).map (cv g)) ⟨hx, hb, hml, hown, hts⟩ hM ⟨⟨⟨rfl, rfl, hf, by show 8 + (pM x + 11) + 41 * d' ≤ _; omega, hcb', List.mem_cons_self⟩, hco, hts _ (ckW_mem k5), d2, d1, hts _ hl⟩, k6, hts _ (ckW_mem k4)⟩ ⟨mPc_blind hT, hpc⟩ rfl hlen hls hst (lv_room hcat') hd ⟨hrc, hrs⟩) hS hkk
      · cases hk
    · cases hrcv
  · rename_i ix
    split at hrcv
    · rename_i b As hav
      have hx7 : Nat.blt 999 x = false := by
        cases hq : Nat.blt 999 x with
        | false => rfl
        | true =>
          have q1 := Nat.blt_eq.mp hq
          have q2 := Nat.blt_eq.mp hx9
          omega
      rw [hx7] at hrcv
      simp only [cond_false] at hrcv
      split at hrcv
      · rename_i ci fs hcb0
        have hci := Nat.eq_of_beq_eq_true hrcv
        subst hci
        obtain ⟨j, rfl, -, hj⟩ := e_c_inv hcb0
        simp only [ckX, hx9, cond_true] at hk
        split at hk
        · rename_i w ne w1 w2 w3
          simp only [Bool.and_eq_true, decide_eq_true_eq] at hk
          obtain ⟨⟨⟨⟨⟨⟨⟨k1, k0⟩, k2⟩, k3⟩, k4⟩, k5⟩, k6⟩, k7⟩ := hk
          have hx6 := Nat.blt_eq.mp k1
          have hpm := pM_le x hx6
          obtain ⟨d1, d2⟩ := ckD_inv k2
          obtain ⟨hl9, hS9⟩ := take_split (rest := []) hyl hav
          have hM := met_of2 hSn hev hx6 hsum'
          rw [hav] at hpc hM
          obtain ⟨q, hq, hq1⟩ := Option.map_eq_some_iff.mp k7
          have hrec := va_recv hK (va_P.one (hR.2 j _ hj)) hq (q0 := 0) rfl
          rw [hq1, ← hg j] at hrec
          have hst : S.map (cv g) = (As.map (cv g)).reverse ++ .ref (g (32 + j)) :: (S.drop y).map (cv g) := by
            conv => lhs; rw [hS9]
            rw [List.map_append, List.map_reverse, List.map_cons]
            rfl
          have hlen : (As.map (cv g)).length = y - 1 := by rw [List.length_map]; omega
          rcases ckL_inv k3 with hl | hl
          · exact snd_run (va_runV (As := As.map (cv g)) (b := g (32 + j)) (C := (pY x).cls) (rest := (S.drop y).map (cv g)) ⟨hx, hb, hml, hown, hts⟩ hM ⟨⟨rfl, rfl, hf, by show 8 + (pM x + 11) + 41 * d' ≤ _; omega, hcb hx6, List.mem_cons_self, hts _ (pCode x hx6), hts _ (ckW_mem k6), d2, d1, hts _ hl⟩, hts _ (ckW_mem k4), hts _ (ckW_mem k5)⟩ ⟨mPc_blind hT, hrec, hpc⟩ rfl hlen hls hst (lv_room hcat') hd ⟨hrc, hrs⟩) hS hkk
          · exact snd_run (va_runVN (As := As.map (cv g)) (b := g (32 + j)) (C := (pY x).cls) (rest := (S.drop y).map (cv g)) ⟨hx, hb, hml, hown, hts⟩ hM ⟨⟨⟨rfl, rfl, hf, by show 8 + (pM x + 11) + 41 * d' ≤ _; omega, hcb hx6, List.mem_cons_self⟩, hts _ (pCode x hx6), hts _ (ckW_mem k6), d2, d1, hts _ hl⟩, hts _ (ckW_mem k4), hts _ (ckW_mem k5)⟩ ⟨mPc_blind hT, hrec, hpc⟩ rfl hlen hls hst (lv_room hcat') hd ⟨hrc, hrs⟩) hS hkk
        · cases hk
      · cases hrcv
    · cases hrcv
  · cases hrcv
end CALL
end MAIN2
section ALL2
def LineOk2 (l : Launch) (TX : State → Prop) (z0 : Nat) (g : Nat → Nat) (D : va_G) (dT : Nat → ClassId) (sc : aS) (n : Nat) : Prop :=
  ∀ (p : Program) (e : Env) (R : Room) (s : State) (m : MethodId) (args : Array Value) (below : List Frame) (meth : Method) (c : Code) (H : Heap) (locs : List Loc) (cells slots : Nat) (Q : State → Prop) (ls : Array Slot) (mid pc y d : Nat) (i : Instr) (ws : List Nat) (S : List Value) (h h' : aH) (v : Option Value),
    Cx mid p s m args meth c → Wd TX z0 g D dT sc s → va_S (fun q => z0 ≤ q) s.heap H locs → Rp z0 g D dT h H → ls.size = pM mid → decode (pB mid) pc = .ok (i, e_len i) → ckX mid pc i 1007 y ws = true → y ≤ S.length → e_cat (S.drop y) = true → e_rcv i 1007 (S.take y).reverse h = true →
    e_line (ev sc n) d (S.take y).reverse h = some (v, h') → mid = 296 → pc = 419 → i = .invokestatic 42 → y = 6 → d + 21 ≤ R.frames → 41 * (d + 21) ≤ R.locals → cells + (h'.length - h.length) ≤ R.cells → slots + (hz h' - hz h) ≤ R.slots →
    (∀ (H1 : Heap) (locs1 : List Loc), va_S (fun q => z0 ≤ q) s.heap H1 locs1 → Rp z0 g D dT h' H1 → W p l e R s m args below meth c H1 locs1 (cells + (h'.length - h.length)) (slots + (hz h' - hz h)) Q (F0 m (pc + e_len i) ls ((v.toList ++ S.drop y).map (cv g)))) →
    W p l e R s m args below meth c H locs cells slots Q (F0 m pc ls (S.map (cv g)))
variable {l : Launch} {TX : State → Prop} {z0 : Nat} {g : Nat → Nat} {D : va_G} {dT : Nat → ClassId} {sc : aS}
theorem e_line_mono2s {n d : Nat} {av : List Value} {h h' : aH} {v : Option Value} (hSn : Snd2 l TX z0 g D dT sc n) (he : e_line (ev sc n) d av h = some (v, h')) : h.length ≤ h'.length ∧ hz h ≤ hz h' := by
  unfold e_line at he
  split at he
  · split at he
    · split at he
      · split at he
        · rename_i h0 hk0
          have m0 := (hSn _ _ _ _ _ _ _ _ hk0).1
          split at he
          · cases he
            exact ⟨by rw [List.length_append]; omega, by rw [hz_app]; omega⟩
          · split at he
            · rename_i h1 hk1
              have m1 := (hSn _ _ _ _ _ _ _ _ hk1).1
              split at he
              · rename_i hc
                split at he
                · cases he
                  obtain ⟨j, -, ha, hj⟩ := e_c_inv hc
                  rw [ha, List.length_set, hz_set (e := .inl (2, _, .inr (.inl _))) hj (by rfl)]
                  exact m1
                · cases he
              · cases he
            · cases he
        · cases he
      · cases he
    · cases he
  · cases he
theorem snd_all2 (hT : TxOk z0 TX) (hg : ∀ i, g (32 + i) = z0 + i) (hI : IntOk l TX z0 g D dT sc) (hLn : ∀ n, Snd2 l TX z0 g D dT sc n → LineOk2 l TX z0 g D dT sc n) : ∀ n, Snd2 l TX z0 g D dT sc n
  | 0 => fun d mid pc L S h r h' hev => by cases hev
  | n + 1 => fun d mid pc L S h r h' hev => by
    have ih := snd_all2 hT hg hI hLn n
    rw [ev_succ] at hev
    unfold evS at hev
    split at hev
    · rename_i i nx x y hpt
      obtain ⟨ws, hd, hle, hsw, hk⟩ := pT_ok hpt
      cases hi : e_isw i with
      | true =>
        have hev' : (match e_sw pc i S with
          | some (t, S') => ev sc n d mid t L S' h
          | none => e_call sc (ev sc n) d mid L S h i nx x y) = some (r, h') := by
          unfold e_isw at hi
          split at hi
          · exact hev
          · exact hev
          · cases hi
        split at hev'
        · rename_i t S' he
          have K := ih d mid t L S' h r h' hev'
          exact ⟨K.1, fun p e R s m args below meth c H locs cells slots ls C0 hw hS hR hl hf hlo hrc hrs => snd_sw C0.1 C0.2.1 hd hk he (K.2 p e R s m args below meth c H locs cells slots ls C0 hw hS hR hl hf hlo hrc hrs)⟩
        · unfold e_isw at hi
          unfold e_call e_rcv at hev'
          split at hi
          · simp at hev'
          · simp at hev'
          · cases hi
      | false =>
        have hnx : nx = pc + e_len i := by
          rcases hsw with q | q
          · rw [hi] at q; cases q
          · exact q
        subst hnx
        rw [Nat.add_sub_cancel_left] at hd
        unfold e_go at hev
        split at hev
        · rename_i S' he
          have K := ih d mid _ L S' h r h' hev
          exact ⟨K.1, fun p e R s m args below meth c H locs cells slots ls C0 hw hS hR hl hf hlo hrc hrs => snd_op C0.1 C0.2.1 hd hk he (K.2 p e R s m args below meth c H locs cells slots ls C0 hw hS hR hl hf hlo hrc hrs)⟩
        · split at hev
          · rename_i v he
            have K := ih d mid _ L (v :: S) h r h' hev
            exact ⟨K.1, fun p e R s m args below meth c H locs cells slots ls C0 hw hS hR hl hf hlo hrc hrs => snd_lo C0.1 C0.2.1 hd hl he (K.2 p e R s m args below meth c H locs cells slots ls C0 hw hS hR hl hf hlo hrc hrs)⟩
          · split at hev
            · rename_i b S' he
              have K := ih d mid (bif b then x else pc + e_len i) L S' h r h' (by cases b <;> exact hev)
              exact ⟨K.1, fun p e R s m args below meth c H locs cells slots ls C0 hw hS hR hl hf hlo hrc hrs => snd_br C0.1 C0.2.1 hd hk he (K.2 p e R s m args below meth c H locs cells slots ls C0 hw hS hR hl hf hlo hrc hrs)⟩
            · split at hev
              · rename_i S' he
                have K := ih d mid _ L S' h r h' hev
                exact ⟨K.1, fun p e R s m args below meth c H locs cells slots ls C0 hw hS hR hl hf hlo hrc hrs => snd_rd C0 hw hg hS hR hd hk he (K.2 p e R s m args below meth c H locs cells slots ls C0 hw hS hR hl hf hlo hrc hrs)⟩
              · split at hev
                · rename_i L' S' he
                  have K := ih d mid _ L' S' h r h' hev
                  exact ⟨K.1, fun p e R s m args below meth c H locs cells slots ls C0 hw hS hR hl hf hlo hrc hrs => snd_sto C0.1 C0.2.1 hd hk hl he (fun ls' hl' => K.2 p e R s m args below meth c H locs cells slots ls' C0 hw hS hR hl' hf hlo hrc hrs)⟩
                · split at hev
                  · rename_i S' h1 he
                    have K := ih d mid _ L S' h1 r h' hev
                    have M := e_wr_mono he
                    refine ⟨⟨by omega, by omega⟩, fun p e R s m args below meth c H locs cells slots ls C0 hw hS hR hl hf hlo hrc hrs => ?_⟩
                    refine snd_wr C0 hw hg hS hR hd hk he (by omega) (by omega) (fun H1 locs1 hS1 hR1 => ?_)
                    have K1 := K.2 p e R s m args below meth c H1 locs1 (cells + (h1.length - h.length)) (slots + (hz h1 - hz h)) ls C0 hw hS1 hR1 hl hf hlo (by omega) (by omega)
                    rw [show cells + (h1.length - h.length) + (h'.length - h1.length) = cells + (h'.length - h.length) by omega, show slots + (hz h1 - hz h) + (hz h' - hz h1) = slots + (hz h' - hz h) by omega] at K1
                    exact K1
                  · split at hev
                    · rename_i v he
                      cases hev
                      refine ⟨⟨Nat.le_refl _, Nat.le_refl _⟩, fun p e R s m args below meth c H locs cells slots ls C0 hw hS hR hl hf hlo hrc hrs => ?_⟩
                      rw [Nat.sub_self, Nat.sub_self, Nat.add_zero, Nat.add_zero]
                      exact snd_ret C0 hS hR hd he
                    · split at hev
                      · rename_i t S' he
                        exfalso
                        unfold e_sw at he
                        unfold e_isw at hi
                        split at he <;> simp at hi he
                      · unfold e_call at hev
                        cases hcnd : (Nat.ble y S.length && e_cat (S.drop y) && e_rcv i x (S.take y).reverse h && (Nat.blt 999 x || Nat.ble ((S.take y).map fun v => v.category).sum (pM x))) with
                        | false => rw [hcnd] at hev; cases hev
                        | true =>
                          rw [hcnd] at hev
                          simp only [Bool.and_eq_true, cond_true] at hcnd hev
                          obtain ⟨⟨⟨c1, c2⟩, c3⟩, c4⟩ := hcnd
                          have hyl := Nat.ble_eq.mp c1
                          split at hev
                          · cases hev
                          · rename_i d'
                            cases hx9 : Nat.blt x 1000 with
                            | true =>
                              rw [hx9] at hev
                              simp only [cond_true] at hev
                              have hsum : ((S.take y).map fun v => v.category).sum ≤ pM x := by
                                rcases Bool.or_eq_true_iff.mp c4 with q | q
                                · have := Nat.blt_eq.mp q
                                  have := Nat.blt_eq.mp hx9
                                  omega
                                · exact Nat.ble_eq.mp q
                              split at hev
                              · rename_i v h1 he
                                have M := (ih _ _ _ _ _ _ _ _ he).1
                                have K := ih (d' + 1) mid _ L _ h1 r h' hev
                                refine ⟨⟨by omega, by omega⟩, fun p e R s m args below meth c H locs cells slots ls C0 hw hS hR hl hf hlo hrc hrs => ?_⟩
                                refine snd_call2 hT hg ih C0 hw hS hR hl.1 hd hk hx9 hyl c2 c3 hsum he (by omega) (by omega) (by omega) (by omega) (fun H1 locs1 hS1 hR1 => ?_)
                                have K1 := K.2 p e R s m args below meth c H1 locs1 (cells + (h1.length - h.length)) (slots + (hz h1 - hz h)) ls C0 hw hS1 hR1 hl hf hlo (by omega) (by omega)
                                rw [show cells + (h1.length - h.length) + (h'.length - h1.length) = cells + (h'.length - h.length) by omega, show slots + (hz h1 - hz h) + (hz h' - hz h1) = slots + (hz h' - hz h) by omega] at K1
                                exact K1
                              · cases hev
                            | false =>
                              rw [hx9] at hev
                              simp only [cond_false] at hev
                              cases hx7 : Nat.beq x 1007 with
                              | true =>
                                rw [hx7] at hev
                                simp only [cond_true] at hev
                                have hx8 := Nat.eq_of_beq_eq_true hx7
                                subst hx8
                                split at hev
                                · rename_i v h1 he
                                  have M := e_line_mono2s ih he
                                  have K := ih (d' + 1) mid _ L _ h1 r h' hev
                                  refine ⟨⟨by omega, by omega⟩, fun p e R s m args below meth c H locs cells slots ls C0 hw hS hR hl hf hlo hrc hrs => ?_⟩
                                  obtain ⟨w1, w2, w3, w4⟩ := line_at hpt c3
                                  have hsl : e_sl mid = 20 := by rw [w1]; rfl
                                  rw [hsl] at hf hlo
                                  refine hLn n ih p e R s m args below meth c H locs cells slots _ ls mid pc y d' i ws S h h1 v C0 hw hS hR hl.1 hd hk hyl c2 c3 he w1 w2 w3 w4 (by omega) (by omega) (by omega) (by omega) (fun H1 locs1 hS1 hR1 => ?_)
                                  have K1 := K.2 p e R s m args below meth c H1 locs1 (cells + (h1.length - h.length)) (slots + (hz h1 - hz h)) ls C0 hw hS1 hR1 hl (by rw [hsl]; omega) (by rw [hsl]; omega) (by omega) (by omega)
                                  rw [show cells + (h1.length - h.length) + (h'.length - h1.length) = cells + (h'.length - h.length) by omega, show slots + (hz h1 - hz h) + (hz h' - hz h1) = slots + (hz h' - hz h) by omega] at K1
                                  exact K1
                                · cases hev
                              | false =>
                                rw [hx7] at hev
                                simp only [cond_false] at hev
                                cases hx4 : (Nat.blt x 1004 || Nat.ble 8 d') with
                                | false => rw [hx4] at hev; cases hev
                                | true =>
                                rw [hx4] at hev
                                simp only [cond_true] at hev
                                split at hev
                                · rename_i v h1 he
                                  obtain ⟨M1, M2⟩ := e_int_len he
                                  have K := ih (d' + 1) mid _ L _ h1 r h' hev
                                  rw [M1, M2] at K
                                  refine ⟨K.1, fun p e R s m args below meth c H locs cells slots ls C0 hw hS hR hl hf hlo hrc hrs => ?_⟩
                                  exact hI p e R s m args below meth c H locs cells slots _ ls mid pc x y d' i ws S h h1 v C0 hw hS hR hl.1 hd hk hx9 hyl c2 c3 he hx4 (by omega) (by omega) (by omega) (by omega) (fun H1 locs1 hS1 hR1 => K.2 p e R s m args below meth c H1 locs1 cells slots ls C0 hw hS1 hR1 hl hf hlo hrc hrs)
                                · cases hev
    · cases hev
end ALL2
