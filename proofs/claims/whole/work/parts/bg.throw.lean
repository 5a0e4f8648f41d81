/-! THE LAW'S OWN 'line': it throws and catches, or returns -/
theorem met_ofWH {l : Launch} {y : MethodName} {ws ws' : List Cond} {rm : Room} {Pc : Array Value → State → Prop} {Qc : Array Value → State → Outcome → State → Prop} {mc ms : Nat} {free : Addr → Prop} {cc : ByteArray} {maxL : Nat} {ret : Option FieldType} {hh : List (Nat × Nat × Nat × Nat)}
    (hy : plainName y.cls = true) (hw : ws = Cond.codeWith y cc maxL ret hh :: ws')
    (body : ∀ p e s m args below meth c s₁, BodyLoose p l y (headSpec ws rm) cc maxL ret e s m args below meth c s₁ → c.maxLocals = maxL → c.exceptionTable.toList = tableOf hh → Pc args s →
      W p l e (headSpec ws rm).room s m args below meth c s.heap [] 0 0 (MQ below Qc args s mc ms free) (entryFrame m args maxL)) : Met l y ws rm Pc Qc mc ms free := by
  refine MetFree.of_bodyS (code := cc) (maxLocals := maxL) (ret := ret) hy ?_ ?_
  · intro args s m h hn
    obtain ⟨m9, meth, c, hn9, h1, h2, h3, h4, -, h5, h6, -⟩ := Cond.codeWith_spec (atoms_spec (ws := ws) h _ (by rw [hw]; exact List.mem_cons_self))
    cases hn.symm.trans hn9
    exact ⟨meth, c, h1, h2, h3, h4, h5, h6⟩
  · intro p e s m args below meth c s₁ B hml hP _
    have hh0 : s₁.heap = s.heap := by rw [B.state]; rfl
    have ht := vx_table (x := y) B (atoms_spec (ws := ws) B.pre (Cond.codeWith y cc maxL ret hh) (by rw [hw]; exact List.mem_cons_self))
    obtain ⟨t, a1, o, b1, b2, b3⟩ := body p e s m args below meth c s₁ B hml ht hP s₁ hh0 (Stand.of_body B)
    exact ⟨t, o, a1, b1, b2, ⟨b3.1, b3.2⟩⟩
theorem hl_rcv {sc : aS} {n d w : Nat} {p0 p1 p2 : Int32} {h : aH} {r : Option Value × aH} (hk : ev sc n d 60 0 (lv_args 0 [.ref w, .int p0, .int p1, .int p2]) [] h = some r) : e_isC h w 5 = true := by
  have h1 := evp_of hk
  rw [s60_0] at h1
  have h2 : evp sc d 60 1 (lv_args 0 [.ref w, .int p0, .int p1, .int p2]) [.ref w] h = some r := h1
  rw [s60_1] at h2
  have h3 : evp sc d 60 2 (lv_args 0 [.ref w, .int p0, .int p1, .int p2]) [.int p0, .ref w] h = some r := h2
  cases d with
  | zero =>
    rw [go_of (show pT 60 2 = some (.invokevirtual 105, 5, 58, 2) by decide +kernel)] at h3
    simp [e_go, e_op, e_lo, e_br, e_rd, e_sto, e_wr, e_ret, e_sw, e_call] at h3
  | succ d =>
    rw [s60_2] at h3
    cases hc : e_isC h w 5 with
    | true => rfl
    | false => rw [hc] at h3; simp at h3
abbrev exN : aE := .inr (13, [.null, .null, .null, .null, .null, .null])
def XCn (z0 : Nat) (g : Nat → Nat) (D : va_G) (dT : Nat → ClassId) (h0 : aH) : String → State → State → Prop := fun E st t => E = nse ∧ Rp z0 g D dT (h0 ++ [exN]) t.heap ∧ va_F (fun q => z0 ≤ q) st t
section LINE
variable {l : Launch} {z0 : Nat} {g av : Nat → Nat} {D : va_G} {dT : Nat → ClassId} {sc : aS}
theorem met_throw {n d a w : Nat} {p0 p1 p2 p3 b : Int32} {h h0 : aH} {fs : List Value} (hfl : l.stackTraces = false) (hg : ∀ i, g (32 + i) = z0 + i) (hSn : Snd2 l (TxW z0 g av) z0 g D dT sc n) (hca : e_c h a = some (.inr (11, fs))) (hw2 : (fs[2]? : Option Value) = some (.ref w))
    (hk : ev sc n d 60 0 (lv_args 0 [.ref w, .int p0, .int p1, .int p2]) [] h = some (some (.int b), h0)) (hcond : b = 0 ∨ p3 < 0 ∨ 5 < p3) :
    vx_Met l (pY 134) (Cond.code (pY 134) (pB 134) (pM 134) (pR 134) :: gt) (rmOf (d + 10) (h0.length - h.length + 1) (hz h0 - hz h + 6)) (mPc (TxW z0 g av) z0 g D dT sc [.ref a, .int p0, .int p1, .int p2, .int p3] h) (fun _ _ _ _ => False) (XCn z0 g D dT h0) (h0.length - h.length + 1) (hz h0 - hz h + 6) (fun q => z0 ≤ q) := by
  refine vx_ofW (cc := pB 134) (maxL := pM 134) (ret := pR 134) (pY_plain 134 (by decide)) rfl ?_
  intro p e s m args below meth c s₁ B hml htab hv0
  obtain ⟨rfl, hRp, hWd⟩ := hv0
  have hts0 := atoms_spec (ws := Cond.code (pY 134) (pB 134) (pM 134) (pR 134) :: gt) B.pre
  have hown : s.vm.findClass (pY 134).cls = some m.cls := findClass_of_methodNamed B.named
  have hnm : meth.name = (pY 134).name := (name_of_methodNamed B.named B.method).1
  have hl := lv_entry (([.ref a, .int p0, .int p1, .int p2, .int p3] : List Value).map (cv g)) (n := pM 134) (by rw [lg_sl_cv, lg_len]; exact Nat.le_of_ble_eq_true rfl)
  rw [lg_entry_eq]
  generalize (lg_sl (([.ref a, .int p0, .int p1, .int p2, .int p3] : List Value).map (cv g)) ++ List.replicate (pM 134 - (lg_sl (([.ref a, .int p0, .int p1, .int p2, .int p3] : List Value).map (cv g))).length) Slot.unset).toArray = ls at hl ⊢
  have hl : lv_has ls (pM 134) [(0, .ref (g a)), (1, .int p0), (2, .int p1), (3, .int p2), (4, .int p3)] := hl
  have hts : ∀ w ∈ gt, w.before _ s = true := fun w hw => hts0 w (List.mem_cons_of_mem _ hw)
  have C0 : Cx 134 p s m (([.ref a, .int p0, .int p1, .int p2, .int p3] : List Value).map (cv g)).toArray meth c := ⟨B.exec, B.bytes, B.returns, B.notSynchronized, hml, hown, hts, fun q => hnm.trans q⟩
  have hx := B.exec
  have hb := B.bytes
  have hlk := B.notSynchronized
  have hm1 := (hSn _ _ _ _ _ _ _ _ hk).1
  obtain ⟨ws1, -, -, -, hk1⟩ := pT_ok (show pT 134 1 = some (.getfield 26, 4, 11, 2) by decide +kernel)
  obtain ⟨ws7, -, -, -, hk7⟩ := pT_ok (show pT 134 7 = some (.invokevirtual 142, 10, 60, 4) by decide +kernel)
  have hci := hl_rcv hk
  show W p l e (rmOf (d + 10) (h0.length - h.length + 1) (hz h0 - hz h + 6)) s m _ below meth c s.heap [] 0 0 _ (F0 m 0 ls [])
  refine lv_aload_n hx hb (show decode (pB 134) 0 = .ok (.aload_n 0, 1) by decide +kernel) rfl (lv_at hl 0 rfl) ?_
  refine snd_rd (S := [.ref a]) (S' := [.ref w]) (i := .getfield 26) (x := 11) (y := 2) C0 hWd hg va_S.rf hRp (show decode (pB 134) 1 = .ok (.getfield 26, 3) by decide +kernel) hk1 (by simp [e_rd, hca, hw2]) ?_
  refine lv_iload_n hx hb (show decode (pB 134) 4 = .ok (.iload_n 1, 1) by decide +kernel) rfl (lv_at hl 1 rfl) ?_
  refine lv_iload_n hx hb (show decode (pB 134) 5 = .ok (.iload_n 2, 1) by decide +kernel) rfl (lv_at hl 2 rfl) ?_
  refine lv_iload_n hx hb (show decode (pB 134) 6 = .ok (.iload_n 3, 1) by decide +kernel) rfl (lv_at hl 3 rfl) ?_
  refine snd_call2 (S := [.int p2, .int p1, .int p0, .ref w]) (x := 60) (y := 4) (i := .invokevirtual 142) tx_ok hg hSn C0 hWd va_S.rf hRp hl.1 (show decode (pB 134) 7 = .ok (.invokevirtual 142, 3) by decide +kernel) hk7 rfl (Nat.le_of_ble_eq_true rfl) rfl (by
      show e_rcv (.invokevirtual 142) 60 [.ref w, .int p0, .int p1, .int p2] h = true
      exact hci) (Nat.le_of_ble_eq_true rfl) hk (by show d + 1 ≤ d + 10; omega) (by show 41 * (d + 1) ≤ 41 * (d + 10); omega) (by show 0 + (h0.length - h.length) ≤ h0.length - h.length + 1; omega) (by show 0 + (hz h0 - hz h) ≤ hz h0 - hz h + 6; omega) (fun H1 locs1 hS1 hR1 => ?_)
  have key : W p l e (rmOf (d + 10) (h0.length - h.length + 1) (hz h0 - hz h + 6)) s m (([.ref a, .int p0, .int p1, .int p2, .int p3] : List Value).map (cv g)).toArray below meth c H1 locs1 (0 + (h0.length - h.length)) (0 + (hz h0 - hz h)) (vx_MQ below (fun _ _ _ _ => False) (XCn z0 g D dT h0) (([.ref a, .int p0, .int p1, .int p2, .int p3] : List Value).map (cv g)).toArray s (h0.length - h.length + 1) (hz h0 - hz h + 6) (fun q => z0 ≤ q)) (F0 m 24 ls []) := by
    refine vx_thr1 (own := "SlotBuses") (cls := nse) (names := nsn) (ik := 146) (ic := 148) (A := fun q => z0 ≤ q) hx hb hfl hown (by decide +kernel) (by decide +kernel) (hts _ lg_k) (hts _ lg_n) (at0_all hts hWd.2.2.2.2.2.2.2.2.2.2) (fun w hw => ?_) hWd.2.2.2.2.2.2.2.2.1 hWd.2.2.2.2.2.2.2.2.2.1 hS1 (hl.1.trans hml.symm)
      (show decode (pB 134) 24 = .ok (.new 146, 3) by decide +kernel) (show decode (pB 134) 27 = .ok (.dup, 1) by decide +kernel) (show decode (pB 134) 28 = .ok (.invokespecial 148, 3) by decide +kernel) (show decode (pB 134) 31 = .ok (.athrow, 1) by decide +kernel) (fun x hx => (htab x hx).elim)
      (by show 2 + 3 < d + 10; omega) (by show 0 + (13 * (2 + 1) + 42) ≤ 41 * (d + 10); omega) (by show 0 + (h0.length - h.length) + 1 ≤ h0.length - h.length + 1; omega) (by show 0 + (hz h0 - hz h) + 6 ≤ hz h0 - hz h + 6; omega) hlk (fun t hv hsz hkp hce => ?_) hS1.2.2 (by omega) (by omega)
    · rcases List.mem_cons.mp hw with rfl | hw
      · rfl
      · rcases List.mem_cons.mp hw with rfl | hw
        · rfl
        · exact List.all_eq_true.mp at0_ot w hw
    · obtain ⟨ce, c1, c2, c3⟩ := hce
      have hc4 : s.vm.findClass nse = some (D.1 13) := (hWd.1.1 13 (RXN, TXN, 0) rfl).2.1
      refine ⟨rfl, hR1.push (e' := exN) ⟨(RXN, TXN, 0), rfl, ce, by rw [← hR1.1]; exact c1, Option.some.inj (c3.symm.trans hc4), c2, fun k hk => absurd hk (Nat.not_lt_zero _)⟩ hsz hkp, Nat.le_trans hS1.1 (by rw [hsz]; omega), fun q q1 q2 => (hkp q (Nat.lt_of_lt_of_le q1 hS1.1)).trans (hS1.2.1 q q1 q2)⟩
  refine lv_if_eq (tgt := 24) hx hb (show decode (pB 134) 10 = .ok (.ifCond .eq 14, 3) by decide +kernel) (by decide) (fun _ => key) (fun n1 => ?_)
  refine lv_iload hx hb (show decode (pB 134) 13 = .ok (.iload 4, 2) by decide +kernel) (lv_at hl 4 rfl) ?_
  refine lv_if_lt (tgt := 24) hx hb (show decode (pB 134) 15 = .ok (.ifCond .lt 9, 3) by decide +kernel) (by decide) (fun _ => key) (fun n2 => ?_)
  refine lv_iload hx hb (show decode (pB 134) 18 = .ok (.iload 4, 2) by decide +kernel) (lv_at hl 4 rfl) ?_
  refine lv_iconst (v := 5) hx hb (show decode (pB 134) 20 = .ok (.iconst 5, 1) by decide +kernel) (by decide) ?_
  refine lv_icmp_le (tgt := 32) hx hb (show decode (pB 134) 21 = .ok (.if_icmp .le 11, 3) by decide +kernel) (by decide) (fun n3 => ?_) (fun _ => key)
  rcases hcond with q | q | q
  · exact absurd q n1
  · exact absurd q n2
  · exact absurd q (Int32.not_lt.mpr n3)
end LINE
