/-! THE LAW'S OWN 'line', as a call -/
section LINE
variable {l : Launch} {z0 : Nat} {g av : Nat → Nat} {D : va_G} {dT : Nat → ClassId} {sc : aS}
abbrev lnA (a o : Nat) (p0 p1 p2 p3 : Int32) : List Value := [.ref a, .int p0, .int p1, .int p2, .int p3, .ref o]
abbrev lnW : List Jvm.Cond := Cond.codeWith yLn method_3_code 7 (some .int) [(0, 14, 17, 13)] :: gt
theorem line_thr {n d a w o : Nat} {p0 p1 p2 p3 b : Int32} {h h0 : aH} {fs : List Value} (hfl : l.stackTraces = false) (hg : ∀ i, g (32 + i) = z0 + i) (hSn : Snd2 l (TxW z0 g av) z0 g D dT sc n) (hca : e_c h a = some (.inr (11, fs))) (hw2 : (fs[2]? : Option Value) = some (.ref w))
    (hk : ev sc n d 60 0 (lv_args 0 [.ref w, .int p0, .int p1, .int p2]) [] h = some (some (.int b), h0)) (hcond : b = 0 ∨ p3 < 0 ∨ 5 < p3) :
    Met l yLn lnW (rmOf (d + 15) (h0.length - h.length + 1) (hz h0 - hz h + 6)) (mPc (TxW z0 g av) z0 g D dT sc (lnA a o p0 p1 p2 p3) h) (mQc z0 g D dT (some (.int 1)) (h0 ++ [exN])) (h0.length - h.length + 1) (hz h0 - hz h + 6) (fun q => z0 ≤ q) := by
  have hM := met_throw hfl hg hSn hca hw2 hk hcond
  refine met_ofWH (cc := method_3_code) (maxL := 7) (ret := some .int) (hh := [(0, 14, 17, 13)]) (by decide +kernel) rfl ?_
  intro p e s m args below meth c s₁ B hml htab hv0
  obtain ⟨rfl, hRp, hWd⟩ := hv0
  have hts0 := atoms_spec (ws := lnW) B.pre
  have hown : s.vm.findClass "SlotBusesLaw" = some m.cls := findClass_of_methodNamed B.named
  have hl := lv_entry ((lnA a o p0 p1 p2 p3).map (cv g)) (n := 7) (by rw [lg_sl_cv, lg_len]; exact Nat.le_of_ble_eq_true rfl)
  rw [lg_entry_eq]
  generalize (lg_sl ((lnA a o p0 p1 p2 p3).map (cv g)) ++ List.replicate (7 - (lg_sl ((lnA a o p0 p1 p2 p3).map (cv g))).length) Slot.unset).toArray = ls at hl ⊢
  have hl : lv_has ls 7 [(0, .ref (g a)), (1, .int p0), (2, .int p1), (3, .int p2), (4, .int p3), (5, .ref (g o))] := hl
  have hts : ∀ w ∈ gt, w.before _ s = true := fun w hw => hts0 w (List.mem_cons_of_mem _ hw)
  have hx := B.exec
  have hb := B.bytes
  have hr := B.returns
  have hlk := B.notSynchronized
  obtain ⟨j, rfl, -, hj⟩ := e_c_inv hca
  have hrec := va_recv hWd.1 (va_P.one (hRp.2 j _ hj)) (show pCl[11]? = some (RX11, TX11, 10) from rfl) (q0 := 0) rfl
  rw [← hg j] at hrec
  obtain ⟨d1, d2⟩ := ckD_inv lg_7d
  have hpay : ∀ w ∈ (Cond.code (pY 134) (pB 134) (pM 134) (pR 134) :: gt), ∀ (a' : Array Value) (U : State), s.WarmedH U.vm → w.before a' U = true := by
    intro w hw a' U hW
    rcases List.mem_cons.mp hw with rfl | hw
    · exact gt_pay hts hW _ (pCode 134 (by decide))
    · exact gt_pay hts hW _ hw
  show W p l e (rmOf (d + 15) (h0.length - h.length + 1) (hz h0 - hz h + 6)) s m _ below meth c s.heap [] 0 0 _ (F0 m 0 ls [])
  refine lv_aload hx hb (show decode method_3_code 0 = .ok (.aload 5, 2) by decide +kernel) (lv_at hl 5 rfl) ?_
  refine lv_iconst (v := 0) hx hb (show decode method_3_code 2 = .ok (.iconst 0, 1) by decide +kernel) (by decide) ?_
  refine lv_aload_n hx hb (show decode method_3_code 3 = .ok (.aload_n 0, 1) by decide +kernel) rfl (lv_at hl 0 rfl) ?_
  refine lv_iload_n hx hb (show decode method_3_code 4 = .ok (.iload_n 1, 1) by decide +kernel) rfl (lv_at hl 1 rfl) ?_
  refine lv_iload_n hx hb (show decode method_3_code 5 = .ok (.iload_n 2, 1) by decide +kernel) rfl (lv_at hl 2 rfl) ?_
  refine lv_iload_n hx hb (show decode method_3_code 6 = .ok (.iload_n 3, 1) by decide +kernel) rfl (lv_at hl 3 rfl) ?_
  refine lv_iload hx hb (show decode method_3_code 7 = .ok (.iload 4, 2) by decide +kernel) (lv_at hl 4 rfl) ?_
  have hrun := vx_runV (R := rmOf (d + 15) (h0.length - h.length + 1) (hz h0 - hz h + 6)) (e := e) (below := below) (meth := meth) (H := s.heap) (locs := []) (cells := 0) (slots := 0) (As := [.int p0, .int p1, .int p2, .int p3]) (b := g (32 + j)) (C := "SlotBuses") (own := "SlotBusesLaw") (index := 7) (n := 4) (rest := [.int 0, .ref (g o)]) (g := F0 m 9 ls [.int p3, .int p2, .int p1, .int p0, .ref (g (32 + j)), .int 0, .ref (g o)])
    (cc := method_3_code) (nL := 7) (Ts := gt) ⟨hx, hb, hml, hown, hts⟩ hM ⟨⟨rfl, rfl, by show d + 10 + 1 ≤ d + 15; omega, by show 8 + (5 + 11) + 41 * (d + 10) ≤ 41 * (d + 15); omega, hpay, List.mem_cons_self, hts _ (pCode 134 (by decide)), hts _ lg_iS, d2, d1, hts _ lg_7⟩, hts _ lg_7i, hts _ lg_7s⟩ ⟨mPc_blind tx_ok, hrec, fun U hU hW => ⟨rfl, by rw [hU]; exact hRp, Wd.moved tx_ok hWd hW (by rw [hU]; exact Nat.le_refl _) (fun q _ _ => by rw [hU])⟩⟩
    rfl rfl hl.1 rfl (lv_room (Nat.le_of_ble_eq_true rfl)) (show decode method_3_code 9 = .ok (.invokevirtual 7, 3) by decide +kernel) ⟨by show 0 + _ ≤ _; rw [Nat.zero_add]; exact Nat.le_refl _, by show 0 + _ ≤ _; rw [Nat.zero_add]; exact Nat.le_refl _⟩
  intro T hT X
  rcases hrun T hT X with ⟨v, st₀, t, T', Lq, z1, X', hL, e1, e2, hbad, st⟩ | ⟨q, st₀, t, T', Lq, E, ce, z1, X', hL, e1, e2, ⟨rfl, hR', hF⟩, hce, hcv, hcl, st⟩
  · exact hbad.elim
  · rw [List.nil_append, Nat.zero_add, Nat.zero_add] at X'
    obtain ⟨-, -, hS'⟩ := vx_keep (A0 := fun q => z0 ≤ q) (A1 := fun q => z0 ≤ q) (free := fun q => z0 ≤ q) (locs := []) (H0 := s.heap) (H := s.heap) z1 e1 va_S.rf (fun _ _ h => h) (fun _ h => h) hL hF
    rw [List.nil_append] at hS'
    rw [← e1] at hR'
    have K : vx_W p l e (rmOf (d + 15) (h0.length - h.length + 1) (hz h0 - hz h + 6)) s m ((lnA (32 + j) o p0 p1 p2 p3).map (cv g)).toArray below meth c T'.heap Lq (h0.length - h.length + 1) (hz h0 - hz h + 6) (MQ below (mQc z0 g D dT (some (.int 1)) (h0 ++ [exN])) ((lnA (32 + j) o p0 p1 p2 p3).map (cv g)).toArray s (h0.length - h.length + 1) (hz h0 - hz h + 6) (fun q => z0 ≤ q)) (F0 m 9 ls [.int 0, .ref (g o)]) q := by
      refine vx_catch (own := "SlotBusesLaw") (name := nse) (E := nse) (ce := ce) hown [] ⟨0, 14, 17, 13⟩ [] htab (fun z hz => by cases hz) (by decide) (by decide) (hts _ lg_13) (va_Nw.use rfl hWd.2.2.2.2.2.2.2.2.2.2.1) (by rw [e1]; exact hce) hcv hcl ?_
      refine lv_astore (lv' := [(6, .ref q), (0, .ref (g (32 + j))), (1, .int p0), (2, .int p1), (3, .int p2), (4, .int p3), (5, .ref (g o))]) hx hb (show decode method_3_code 17 = .ok (.astore 6, 2) by decide +kernel) hl (by decide) rfl (fun ls hl => ?_)
      refine lv_iconst (v := 1) hx hb (show decode method_3_code 19 = .ok (.iconst 1, 1) by decide +kernel) (by decide) ?_
      exact W.iret hx hb hr (fun t ht _ => ⟨rfl, by rw [ht]; exact hR', hS'.F ht⟩) hS'.2.2 (show decode method_3_code 20 = .ok (.ireturn, 1) by decide +kernel) (hlocks := hlk)
    obtain ⟨t2, a1, b1⟩ := K T' rfl X'
    exact ⟨t2, st.trans a1, b1⟩
theorem line_ret {n d j jo n1 : Nat} {p0 p1 p2 p3 v : Int32} {h h1 : aH} {fs : List Value} {f : Nat → Int64} (hg : ∀ i, g (32 + i) = z0 + i) (hSn : Snd2 l (TxW z0 g av) z0 g D dT sc n) (hj : h[j]? = some (.inr (11, fs)))
    (hk : ev sc n d 134 0 (lv_args 0 [.ref (32 + j), .int p0, .int p1, .int p2, .int p3]) [] h = some (some (.int v), h1)) (hjo : h1[jo]? = some (.inl (2, n1, .inr (.inl f)))) (hn1 : 0 < n1) :
    Met l yLn lnW (rmOf (d + 15) (h1.length - h.length) (hz h1 - hz h)) (mPc (TxW z0 g av) z0 g D dT sc (lnA (32 + j) (32 + jo) p0 p1 p2 p3) h) (mQc z0 g D dT (some (.int 0)) (h1.set jo (.inl (2, n1, .inr (.inl (vp_updL f 0 v.toInt64)))))) (h1.length - h.length) (hz h1 - hz h) (fun q => z0 ≤ q) := by
  have hM := met_of2 (x := 134) (av := [.ref (32 + j), .int p0, .int p1, .int p2, .int p3]) hSn hk (by decide) (Nat.le_of_ble_eq_true rfl)
  refine met_ofWH (cc := method_3_code) (maxL := 7) (ret := some .int) (hh := [(0, 14, 17, 13)]) (by decide +kernel) rfl ?_
  intro p e s m args below meth c s₁ B hml htab hv0
  obtain ⟨rfl, hRp, hWd⟩ := hv0
  have hts0 := atoms_spec (ws := lnW) B.pre
  have hown : s.vm.findClass "SlotBusesLaw" = some m.cls := findClass_of_methodNamed B.named
  have hl := lv_entry ((lnA (32 + j) (32 + jo) p0 p1 p2 p3).map (cv g)) (n := 7) (by rw [lg_sl_cv, lg_len]; exact Nat.le_of_ble_eq_true rfl)
  rw [lg_entry_eq]
  generalize (lg_sl ((lnA (32 + j) (32 + jo) p0 p1 p2 p3).map (cv g)) ++ List.replicate (7 - (lg_sl ((lnA (32 + j) (32 + jo) p0 p1 p2 p3).map (cv g))).length) Slot.unset).toArray = ls at hl ⊢
  have hl : lv_has ls 7 [(0, .ref (g (32 + j))), (1, .int p0), (2, .int p1), (3, .int p2), (4, .int p3), (5, .ref (g (32 + jo)))] := hl
  have hts : ∀ w ∈ gt, w.before _ s = true := fun w hw => hts0 w (List.mem_cons_of_mem _ hw)
  have hx := B.exec
  have hb := B.bytes
  have hr := B.returns
  have hlk := B.notSynchronized
  have hrec := va_recv hWd.1 (va_P.one (hRp.2 j _ hj)) (show pCl[11]? = some (RX11, TX11, 10) from rfl) (q0 := 0) rfl
  rw [← hg j] at hrec
  obtain ⟨d1, d2⟩ := ckD_inv lg_7d
  have hpay : ∀ w ∈ (Cond.code (pY 134) (pB 134) (pM 134) (pR 134) :: gt), ∀ (a' : Array Value) (U : State), s.WarmedH U.vm → w.before a' U = true := by
    intro w hw a' U hW
    rcases List.mem_cons.mp hw with rfl | hw
    · exact gt_pay hts hW _ (pCode 134 (by decide))
    · exact gt_pay hts hW _ hw
  show W p l e (rmOf (d + 15) (h1.length - h.length) (hz h1 - hz h)) s m _ below meth c s.heap [] 0 0 _ (F0 m 0 ls [])
  refine lv_aload hx hb (show decode method_3_code 0 = .ok (.aload 5, 2) by decide +kernel) (lv_at hl 5 rfl) ?_
  refine lv_iconst (v := 0) hx hb (show decode method_3_code 2 = .ok (.iconst 0, 1) by decide +kernel) (by decide) ?_
  refine lv_aload_n hx hb (show decode method_3_code 3 = .ok (.aload_n 0, 1) by decide +kernel) rfl (lv_at hl 0 rfl) ?_
  refine lv_iload_n hx hb (show decode method_3_code 4 = .ok (.iload_n 1, 1) by decide +kernel) rfl (lv_at hl 1 rfl) ?_
  refine lv_iload_n hx hb (show decode method_3_code 5 = .ok (.iload_n 2, 1) by decide +kernel) rfl (lv_at hl 2 rfl) ?_
  refine lv_iload_n hx hb (show decode method_3_code 6 = .ok (.iload_n 3, 1) by decide +kernel) rfl (lv_at hl 3 rfl) ?_
  refine lv_iload hx hb (show decode method_3_code 7 = .ok (.iload 4, 2) by decide +kernel) (lv_at hl 4 rfl) ?_
  refine snd_run (v := some (.int v)) (h1 := h1) (pc := 9) (rest := [.int 0, .ref (g (32 + jo))]) (va_runV (As := [.int p0, .int p1, .int p2, .int p3]) (b := g (32 + j)) (C := "SlotBuses") (own := "SlotBusesLaw") (index := 7) (n := 4) (rest := [.int 0, .ref (g (32 + jo))])
    (cc := method_3_code) (nL := 7) (Ts := gt) ⟨hx, hb, hml, hown, hts⟩ hM ⟨⟨rfl, rfl, by show d + 1 ≤ d + 15; omega, by show 8 + (5 + 11) + 41 * d ≤ 41 * (d + 15); omega, hpay, List.mem_cons_self, hts _ (pCode 134 (by decide)), hts _ lg_iS, d2, d1, hts _ lg_7⟩, hts _ lg_7i, hts _ lg_7s⟩ ⟨mPc_blind tx_ok, hrec, fun U hU hW => ⟨rfl, by rw [hU]; exact hRp, Wd.moved tx_ok hWd hW (by rw [hU]; exact Nat.le_refl _) (fun q _ _ => by rw [hU])⟩⟩
    rfl rfl hl.1 rfl (lv_room (Nat.le_of_ble_eq_true rfl)) (show decode method_3_code 9 = .ok (.invokevirtual 7, 3) by decide +kernel) ⟨by show 0 + _ ≤ _; rw [Nat.zero_add]; exact Nat.le_refl _, by show 0 + _ ≤ _; rw [Nat.zero_add]; exact Nat.le_refl _⟩) va_S.rf (fun H1 locs1 hS1 hR1 => ?_)
  rw [Nat.zero_add, Nat.zero_add]
  refine lv_i2l (v := v.toInt64) hx hb (show decode method_3_code 12 = .ok (.i2l, 1) by decide +kernel) rfl ?_
  have hjl := (List.getElem?_eq_some_iff.mp hjo).1
  have hcell : H1[g (32 + jo)]? = some (vp_cell (dT 2) (n1, .inr (.inl f))) := by rw [hg]; exact hR1.2 jo _ hjo
  refine W.last (j := 0) (x := v.toInt64) hx hb hcell ((hWd.1.2 2 _ rfl).1 n1 (fun j => .long (f j))) (fun q => by cases q) (by
      show ¬ ((0 : Int32) < 0 ∨ (arrV _ _ _).slots.size ≤ _)
      rw [arrV_size]
      intro q
      rcases q with q | q
      · exact absurd q (by decide)
      · have : (0 : Int32).toNatClampNeg = 0 := rfl
        omega) rfl rfl (show decode method_3_code 13 = .ok (.lastore, 1) by decide +kernel) fun H2 e2 z2 o2 => ?_
  have hS2 := hS1.put (k := (0 : Int32).toNatClampNeg) z2 o2 (by rw [hg]; exact Nat.le_add_right z0 jo)
  have hR2 : Rp z0 g D dT (h1.set jo (.inl (2, n1, .inr (.inl (vp_updL f 0 v.toInt64))))) H2 := by
    refine hR1.set hjl ?_ z2 (by rw [hg] at o2; exact o2)
    show H2[z0 + jo]? = some (vp_cell _ _)
    rw [hg] at e2
    rw [e2, vp_cell_l, vp_cell_l, arrV_store]
    congr 2
    funext q
    by_cases hq : q = 0
    · subst hq
      simp [updV, vp_updL]
    · simp [updV, vp_updL, hq]
  refine lv_goto (pc := 14) (ls := ls) (rest := []) (tgt := 21) hx hb (show decode method_3_code 14 = .ok (.goto 7, 3) by decide +kernel) (by decide) ?_
  refine lv_iconst (v := 0) hx hb (show decode method_3_code 21 = .ok (.iconst 0, 1) by decide +kernel) (by decide) ?_
  exact W.iret hx hb hr (fun t ht _ => ⟨rfl, by rw [ht]; exact hR2, hS2.F ht⟩) hS2.2.2 (show decode method_3_code 22 = .ok (.ireturn, 1) by decide +kernel) (hlocks := hlk)
end LINE
