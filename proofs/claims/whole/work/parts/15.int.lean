/-! members of the JDK with a row of their own: Object.<init>, Math.max, Math.min, System.arraycopy -/
theorem take_rev {S av : List Value} {y : Nat} (h : (S.take y).reverse = av) : S = av.reverse ++ S.drop y := by
  rw [← h, List.reverse_reverse, List.take_append_drop]
theorem ckW_of {i : Nat} {w : Jvm.Cond} (h : lw_tbl[i]? = some w) (hg : goodN w = true) : w ∈ gt := gt_mem (List.mem_of_getElem? h) hg
set_option maxRecDepth 100000 in
theorem gt_oi : Cond.instanceMethod objectInit ∈ gt := ckW_of (i := 125) rfl rfl
set_option maxRecDepth 100000 in
theorem gt_oc : Cond.code objectInit ⟨#[0xb1]⟩ 1 none ∈ gt := ckW_of (i := 126) rfl rfl
set_option maxRecDepth 100000 in
theorem gt_xs : Cond.static Lib.Math.max.name ∈ gt := ckW_of (i := 639) rfl rfl
set_option maxRecDepth 100000 in
theorem gt_xc : Cond.code Lib.Math.max.name Lib.Math.max.code 2 (some .int) ∈ gt := ckW_of (i := 640) rfl rfl
set_option maxRecDepth 100000 in
theorem gt_ns : Cond.static Lib.Math.min.name ∈ gt := ckW_of (i := 642) rfl rfl
set_option maxRecDepth 100000 in
theorem gt_nc : Cond.code Lib.Math.min.name Lib.Math.min.code 2 (some .int) ∈ gt := ckW_of (i := 643) rfl rfl
set_option maxRecDepth 100000 in
theorem gt_mi : Cond.initialized "java/lang/Math" ∈ gt := ckW_of (i := 110) rfl rfl
set_option maxRecDepth 100000 in
theorem gt_as : Cond.static arraycopyName ∈ gt := ckW_of (i := 594) rfl rfl
set_option maxRecDepth 100000 in
theorem gt_an : Cond.native arraycopyName ∈ gt := ckW_of (i := 595) rfl rfl
set_option maxRecDepth 100000 in
theorem gt_ai : Cond.initialized "java/lang/System" ∈ gt := ckW_of (i := 107) rfl rfl
section INT
variable {p : Program} {l : Launch} {e : Env} {R : Room} {s : State} {m : MethodId} {args : Array Value} {below : List Frame} {meth : Method} {c : Code} {H : Heap} {locs : List Loc} {cells slots : Nat} {Q : State → Prop}
variable {ls : Array Slot} {mid pc : Nat} {g : Nat → Nat}
variable {TX : State → Prop} {z0 : Nat} {D : va_G} {dT : Nat → ClassId} {sc : aS} {h : aH}
theorem snd_copy (C0 : Cx mid p s m args meth c) (hw : Wd TX z0 g D dT sc s) (hS : va_S (fun q => z0 ≤ q) s.heap H locs) (hR : Rp z0 g D dT h H) (hls : ls.size = pM mid) {ix : Nat} (hd : decode (pB mid) pc = .ok (.invokestatic ix, 3)) (hlink : Cond.methodLink (pY mid).cls ix arraycopyName ∈ gt)
    {cs : Cell} {src n0 : Nat} {f : Nat → Int32} (hsrc : H[src]? = some cs) (harr : s.isArrayOf cs .int) (hkn : cs.vm ≠ .unknown) (hsz : n0 ≤ cs.slots.size) (hval : ∀ j, j < n0 → cs.slots[j]? = some (.int (f j)))
    {j n1 : Nat} {gg : Nat → Int32} (hj : h[j]? = some (.inl (0, n1, .inl gg))) {sp dp n : Int32} (h1 : ¬ sp < 0) (h2 : ¬ dp < 0) (h3 : ¬ n < 0) (h4 : sp.toNatClampNeg + n.toNatClampNeg ≤ n0) (h5 : dp.toNatClampNeg + n.toNatClampNeg ≤ n1)
    {rest : List Value} (hrest : (rest.map fun v => v.category).sum ≤ 8) (hf : 1 ≤ R.frames) (hlo : 41 ≤ R.locals)
    (kk : ∀ (H1 : Heap) (locs1 : List Loc), va_S (fun q => z0 ≤ q) s.heap H1 locs1 → Rp z0 g D dT (h.set j (.inl (0, n1, .inl (va_cpy f gg sp.toNatClampNeg dp.toNatClampNeg n.toNatClampNeg)))) H1 → W p l e R s m args below meth c H1 locs1 cells slots Q (F0 m (pc + 3) ls rest)) :
    W p l e R s m args below meth c H locs cells slots Q (F0 m pc ls (.int n :: .int dp :: .ref (z0 + j) :: .int sp :: .ref src :: rest)) := by
  obtain ⟨hx, hb, hr, hlocks, hml, hown, hts, hin0⟩ := C0
  obtain ⟨hK, hz0, hAO, hRO, hSt, hTxt, hTX⟩ := hw
  have nn : ∀ z : Int32, ¬ z < 0 → z.toInt = (z.toNatClampNeg : Int) := by
    intro z hz
    have hz0 : (0 : Int) ≤ z.toInt := by
      have := Int32.not_lt.mp hz
      simpa using Int32.le_iff_toInt_le.mp this
    show z.toInt = ((z.toInt.toNat : Nat) : Int)
    omega
  have hc1 : H[z0 + j]? = some (vp_cell (dT 0) (n1, .inl gg)) := hR.2 j _ hj
  have hjl := (List.getElem?_eq_some_iff.mp hj).1
  obtain ⟨ho0, k0, hk0, cm0, hkk0⟩ := harr
  obtain ⟨-, k1, hk1, cm1, hkk1⟩ := (hK.2 0 _ rfl).1 n1 (fun j => .int (gg j))
  have hnf : nativeFrameWords "java/lang/System" "arraycopy" 5 ≤ 20 := by decide +kernel
  intro T hT X
  obtain ⟨vm', X', step⟩ := X.arraycopy hx hown (hts _ hlink) (hts _ gt_an) (hts _ gt_as) (hts _ gt_ai) (src := src) (dst := z0 + j) (cs := cs) (cd := vp_cell (dT 0) (n1, .inl gg)) (srcPos := sp) (destPos := dp) (n := n) (by rw [hT]; exact hsrc) (by rw [hT]; exact hc1)
    ho0 (fun _ h => by cases h) hkn (fun h => by cases h) hk0 hk1 hkk0 hkk1 rfl h1 h2 h3
    (by rw [nn sp h1, nn n h3]; omega)
    (by rw [nn dp h2, nn n h3]; show ¬ _ > ((arrV (dT 0) n1 (fun j => .int (gg j))).slots.size : Int); rw [arrV_size]; omega)
    (fun vm₁ _ i hi => by
      have e : cs.slots.getD (sp.toNatClampNeg + i) .null = .int (f (sp.toNatClampNeg + i)) := by
        rw [Array.getD_eq_getD_getElem?, hval _ (by omega)]
        rfl
      refine ⟨?_, ?_⟩
      · rw [e]; rfl
      · rw [e]; exact trivial)
    (g := F0 m pc ls (.int n :: .int dp :: .ref (z0 + j) :: .int sp :: .ref src :: rest)) rfl (by rw [hml]; exact hls) (rest := rest) rfl (by rw [hb]; exact hd) hf (by show 2 * 0 + _ + (nativeFrameWords "java/lang/System" "arraycopy" 5 + 11) ≤ _; omega)
  have e1 : copied cs (vp_cell (dT 0) (n1, .inl gg)) sp dp n = vp_cell (dT 0) (n1, .inl (va_cpy f gg sp.toNatClampNeg dp.toNatClampNeg n.toNatClampNeg)) := va_copiedX (fun z => .int z) cs (dT 0) f gg hval h4
  rw [e1] at X' step
  have hl : z0 + j < H.size := (Array.getElem?_eq_some_iff.mp hc1).1
  have hheap : ((T.setVm vm').setCell (z0 + j) (vp_cell (dT 0) (n1, .inl (va_cpy f gg sp.toNatClampNeg dp.toNatClampNeg n.toNatClampNeg)))).heap = H.setIfInBounds (z0 + j) (vp_cell (dT 0) (n1, .inl (va_cpy f gg sp.toNatClampNeg dp.toNatClampNeg n.toNatClampNeg))) := by rw [← hT]; rfl
  have oq : ∀ q : Nat, q ≠ z0 + j → (H.setIfInBounds (z0 + j) (vp_cell (dT 0) (n1, .inl (va_cpy f gg sp.toNatClampNeg dp.toNatClampNeg n.toNatClampNeg))))[q]? = H[q]? := fun q hq => by simp [Array.getElem?_setIfInBounds, Ne.symm hq]
  obtain ⟨t, a1, b1⟩ := kk _ _ ⟨by simp; exact hS.1, fun q g1 g2 => by
      rw [oq q (fun e => g2 (by rw [e]; exact Nat.le_add_right z0 j))]
      exact hS.2.1 q g1 g2, fun q hq => by
      rcases List.mem_append.mp hq with h | h
      · exact hS.2.2 q h
      · obtain ⟨z, -, hz⟩ := List.mem_map.mp h
        rw [← hz]
        exact Nat.le_add_right z0 j⟩ (hR.set (e' := .inl (0, n1, .inl (va_cpy f gg sp.toNatClampNeg dp.toNatClampNeg n.toNatClampNeg))) hjl (show (H.setIfInBounds (z0 + j) _)[z0 + j]? = some _ by simp [Array.getElem?_setIfInBounds, hl]) (by simp) oq) _ hheap X'
  exact ⟨t, step t a1, b1⟩
end INT
/-- the texts' members, still to be walked: 1004 length, 1005 charAt, 1006 indexOf -/
def TextOk (l : Launch) (TX : State → Prop) (z0 : Nat) (g : Nat → Nat) (D : va_G) (dT : Nat → ClassId) (sc : aS) : Prop :=
  ∀ (p : Program) (e : Env) (R : Room) (s : State) (m : MethodId) (args : Array Value) (below : List Frame) (meth : Method) (c : Code) (H : Heap) (locs : List Loc) (cells slots : Nat) (Q : State → Prop) (ls : Array Slot) (mid pc x y d : Nat) (i : Instr) (ws : List Nat) (S : List Value) (h h' : aH) (v : Option Value),
    (x = 1004 ∨ x = 1005 ∨ x = 1006) → Cx mid p s m args meth c → Wd TX z0 g D dT sc s → va_S (fun q => z0 ≤ q) s.heap H locs → Rp z0 g D dT h H → ls.size = pM mid → decode (pB mid) pc = .ok (i, e_len i) → ckX mid pc i x y ws = true → y ≤ S.length → e_cat (S.drop y) = true → e_rcv i x (S.take y).reverse h = true →
    e_int sc x (S.take y).reverse h = some (v, h') → 8 ≤ d → d + 1 ≤ R.frames → 41 * (d + 1) ≤ R.locals → cells ≤ R.cells → slots ≤ R.slots →
    (∀ (H1 : Heap) (locs1 : List Loc), va_S (fun q => z0 ≤ q) s.heap H1 locs1 → Rp z0 g D dT h' H1 → W p l e R s m args below meth c H1 locs1 cells slots Q (F0 m (pc + e_len i) ls ((v.toList ++ S.drop y).map (cv g)))) →
    W p l e R s m args below meth c H locs cells slots Q (F0 m pc ls (S.map (cv g)))
theorem ck_int_st {mid pc ix x y : Nat} {ws : List Nat} (hk : ckX mid pc (.invokestatic ix) x y ws = true) (hx9 : Nat.blt x 1000 = false) (h7 : x ≠ 1007) : Cond.methodLink (pY mid).cls ix (iY x) ∈ gt ∧ (x = 1001 ∨ x = 1002 ∨ x = 1003) := by
  simp only [ckX, hx9, cond_false] at hk
  split at hk
  · simp only [Bool.or_eq_true, Bool.and_eq_true] at hk
    rcases hk with q | ⟨q1, q2⟩
    · exact absurd (Nat.eq_of_beq_eq_true q) h7
    · refine ⟨ckW_mem q1, ?_⟩
      rcases q2 with (q | q) | q
      · exact Or.inl (Nat.eq_of_beq_eq_true q)
      · exact Or.inr (Or.inl (Nat.eq_of_beq_eq_true q))
      · exact Or.inr (Or.inr (Nat.eq_of_beq_eq_true q))
  · cases hk
theorem ck_int_sp {mid pc ix x y : Nat} {ws : List Nat} (hk : ckX mid pc (.invokespecial ix) x y ws = true) (hx9 : Nat.blt x 1000 = false) : Cond.methodLink (pY mid).cls ix (iY x) ∈ gt ∧ x = 1000 := by
  simp only [ckX, hx9, cond_false] at hk
  split at hk
  · simp only [Bool.and_eq_true] at hk
    exact ⟨ckW_mem hk.1.1, Nat.eq_of_beq_eq_true hk.1.2⟩
  · cases hk
theorem ck_int_vi {mid pc ix x y : Nat} {ws : List Nat} (hk : ckX mid pc (.invokevirtual ix) x y ws = true) (hx9 : Nat.blt x 1000 = false) : Cond.methodLink (pY mid).cls ix (iY x) ∈ gt ∧ (x = 1004 ∨ x = 1005 ∨ x = 1006) := by
  simp only [ckX, hx9, cond_false] at hk
  split at hk
  · simp only [Bool.or_eq_true, Bool.and_eq_true] at hk
    refine ⟨ckW_mem hk.1, ?_⟩
    rcases hk.2 with (q | q) | q
    · exact Or.inl (Nat.eq_of_beq_eq_true q)
    · exact Or.inr (Or.inl (Nat.eq_of_beq_eq_true q))
    · exact Or.inr (Or.inr (Nat.eq_of_beq_eq_true q))
  · cases hk
theorem int_ok {l : Launch} {TX : State → Prop} {z0 : Nat} {g : Nat → Nat} {D : va_G} {dT : Nat → ClassId} {sc : aS} (hg : ∀ i, g (32 + i) = z0 + i) (hTx : TextOk l TX z0 g D dT sc) : IntOk l TX z0 g D dT sc := by
  intro p e R s m args below meth c H locs cells slots Q ls mid pc x y d i ws S h h' v C0 hw hS hR hls hd hk hx9 hyl hcat hrcv he hdd hf hlo hrc hrs kk
  by_cases hx4 : x = 1004 ∨ x = 1005 ∨ x = 1006
  · have h8 : 8 ≤ d := by
      rcases Bool.or_eq_true_iff.mp hdd with q | q
      · have := Nat.blt_eq.mp q
        omega
      · exact Nat.ble_eq.mp q
    exact hTx p e R s m args below meth c H locs cells slots Q ls mid pc x y d i ws S h h' v hx4 C0 hw hS hR hls hd hk hyl hcat hrcv he h8 hf hlo hrc hrs kk
  · have hrest : (((S.drop y).map (cv g)).map fun v => v.category).sum ≤ 8 := by
      rw [List.map_map, show ((fun v => Value.category v) ∘ cv g) = (fun v => v.category) from funext (cv_cat g)]
      simpa [e_cat] using hcat
    have hx7 : x ≠ 1007 := by
      rintro rfl
      unfold e_int at he
      split at he <;> first | (exfalso; omega) | cases he
    have C1 := C0
    have hw1 := hw
    obtain ⟨hx, hb, hr, hlocks, hml, hown, hts, hin0⟩ := C0
    obtain ⟨hK, hz0, hAO, hRO, hSt, hTxt, hTX⟩ := hw
    unfold e_rcv at hrcv
    split at hrcv
    · rename_i ix
      obtain ⟨hl, hxx⟩ := ck_int_st hk hx9 hx7
      rcases hxx with rfl | rfl | rfl
      · simp only [e_int] at he
        split at he <;> first | (simp at *; done) | skip
        rename_i a b hav
        cases he
        have kk1 := kk H locs hS hR
        rw [take_rev hav]
        exact va_mmax (rest := (S.drop y).map (cv g)) hx hb (hml.trans hls.symm) hown (hts _ hl) (hts _ gt_xs) (hts _ gt_mi) (hts _ gt_xc) (by omega) (by omega) hrc hrs hd kk1
      · simp only [e_int] at he
        split at he <;> first | (simp at *; done) | skip
        rename_i a b hav
        cases he
        have kk1 := kk H locs hS hR
        rw [take_rev hav]
        exact va_mmin (rest := (S.drop y).map (cv g)) hx hb (hml.trans hls.symm) hown (hts _ hl) (hts _ gt_ns) (hts _ gt_mi) (hts _ gt_nc) (by omega) (by omega) hrc hrs hd kk1
      · simp only [e_int] at he
        split at he <;> first | (simp at *; done) | skip
        rename_i a sp b dp n _ hav
        split at he
        · rename_i n0 f n1 gg ha hc
          split at he
          · rename_i hcn
            obtain ⟨h1, h2, h3, h4, h5⟩ := hcn
            obtain ⟨j, rfl, hj0, hj⟩ := e_c_inv hc
            rw [hj0] at he
            cases he
            rw [take_rev hav]
            have hst : ([Value.ref a, .int sp, .ref (32 + j), .int dp, .int n].reverse ++ S.drop y).map (cv g) = .int n :: .int dp :: .ref (z0 + j) :: .int sp :: .ref (g a) :: (S.drop y).map (cv g) := by
              simp [cv, hg]
            rw [hst]
            rcases e_arr_inv ha with ⟨-, hro⟩ | ⟨k, rfl, -, hk0⟩
            · obtain ⟨hX, hlt⟩ := hRO a _ hro
              obtain ⟨scr, x1, x2, x3, x4, -, x5, -⟩ := hX
              exact snd_copy C1 hw1 hS hR hls hd hl (by rw [hS.2.1 (g a) (by omega) (by omega)]; exact x1) x2 x3 x4 x5 hj h1 h2 h3 h4 h5 hrest (by omega) (by omega) kk
            · have hat : H[g (32 + k)]? = some (vp_cell (dT 0) (n0, .inl f)) := by rw [hg]; exact hR.2 k _ hk0
              exact snd_copy C1 hw1 hS hR hls hd hl hat ((hK.2 0 _ rfl).1 n0 (fun j => .int (f j))) (fun q => by cases q) (by show _ ≤ (arrV _ _ _).slots.size; rw [arrV_size]; exact Nat.le_refl _) (fun j hj => by show (arrV _ _ _).slots[_]? = _; rw [arrV_read _ _ hj]) hj h1 h2 h3 h4 h5 hrest (by omega) (by omega) kk
          · cases he
        · cases he
    · rename_i ix
      obtain ⟨hl, rfl⟩ := ck_int_sp hk hx9
      simp only [e_int] at he
      split at he <;> first | (simp at *; done) | skip
      rename_i b _ hav
      cases he
      rw [take_rev hav]
      have kk1 := kk H locs hS hR
      exact W.objInit (a := g b) (rest := (S.drop y).map (cv g)) hx hb hown (hts _ hl) (hts _ gt_oi) (hts _ gt_oc) rfl (by rw [hml]; exact hls) rfl hd (by omega) (by show 2 * 0 + _ + 12 ≤ _; omega) kk1
    · rename_i ix
      exact absurd (ck_int_vi hk hx9).2 hx4
    · cases hrcv
