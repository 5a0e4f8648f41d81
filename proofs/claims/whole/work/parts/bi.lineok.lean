/-! LineOk2 holds -/
theorem ln_fr {d x : Nat} (h : d + 21 ≤ x) : d + 15 + 1 ≤ x := by omega
set_option maxRecDepth 100000 in
theorem ln_lo {d x : Nat} (h : 41 * (d + 21) ≤ x) : 8 + (7 + 11) + 41 * (d + 15) ≤ x := by omega
section LINEOK
variable {l : Launch} {z0 : Nat} {g av : Nat → Nat} {D : va_G} {dT : Nat → ClassId} {sc : aS}
theorem line_call {p : Program} {e : Env} {R : Room} {s : State} {m : MethodId} {args : Array Value} {below : List Frame} {meth : Method} {c : Code} {H : Heap} {locs : List Loc} {cells slots : Nat} {Q : State → Prop} {ls : Array Slot} {d a o mc ms : Nat} {p0 p1 p2 p3 r : Int32} {S : List Value} {h hE : aH}
    (C0 : Cx 296 p s m args meth c) (hw : Wd (TxW z0 g av) z0 g D dT sc s) (hS : va_S (fun q => z0 ≤ q) s.heap H locs) (hR : Rp z0 g D dT h H) (hls : ls.size = pM 296) (hd : decode (pB 296) 419 = .ok (.invokestatic 42, 3)) (hcat : e_cat (S.drop 6) = true)
    (hM : Met l yLn lnW (rmOf (d + 15) mc ms) (mPc (TxW z0 g av) z0 g D dT sc (lnA a o p0 p1 p2 p3) h) (mQc z0 g D dT (some (.int r)) hE) mc ms (fun q => z0 ≤ q)) (hav : (S.take 6).reverse = lnA a o p0 p1 p2 p3) (hf : d + 21 ≤ R.frames) (hlo : 41 * (d + 21) ≤ R.locals) (hrc : cells + mc ≤ R.cells) (hrs : slots + ms ≤ R.slots)
    (kk : ∀ (H1 : Heap) (locs1 : List Loc), va_S (fun q => z0 ≤ q) s.heap H1 locs1 → Rp z0 g D dT hE H1 → W p l e R s m args below meth c H1 locs1 (cells + mc) (slots + ms) Q (F0 m 422 ls (.int r :: (S.drop 6).map (cv g)))) :
    W p l e R s m args below meth c H locs cells slots Q (F0 m 419 ls (S.map (cv g))) := by
  obtain ⟨hx, hb, hr, hlocks, hml, hown, hts, hin0⟩ := C0
  have hcat' : (((S.drop 6).map (cv g)).map fun v => v.category).sum ≤ 8 := by
    rw [List.map_map, show ((fun v => Value.category v) ∘ cv g) = (fun v => v.category) from funext (cv_cat g)]
    simpa [e_cat] using hcat
  obtain ⟨d1, d2⟩ := ckD_inv lg_d
  have hst : S.map (cv g) = ((lnA a o p0 p1 p2 p3).map (cv g)).reverse ++ (S.drop 6).map (cv g) := by
    conv => lhs; rw [take_rev hav]
    rw [List.map_append, List.map_reverse]
  have hpay : ∀ w ∈ lnW, ∀ (a' : Array Value) (U : State), s.WarmedH U.vm → w.before a' U = true := by
    intro w hw a' U hW
    rcases List.mem_cons.mp hw with rfl | hw
    · exact gt_pay hts hW _ lg_c
    · exact gt_pay hts hW _ hw
  exact snd_run (v := some (.int r)) (h1 := hE) (pc := 419) (rest := (S.drop 6).map (cv g)) (vx_runSW (As := (lnA a o p0 p1 p2 p3).map (cv g)) (rest := (S.drop 6).map (cv g)) (own := "SlotBusesLaw") (index := 42) (bytes := method_3_code) (maxL := 7) (ret := some .int) (hh := [(0, 14, 17, 13)]) (n := 6) (Ts := gt) (cc := pB 296) (nL := pM 296) ⟨hx, hb, hml, hown, hts⟩ hM
    ⟨⟨rfl, rfl, ln_fr hf, ln_lo hlo, hpay, List.mem_cons_self⟩, hts _ lg_c, hts _ lg_iL, d2, d1, hts _ lg_l, hts _ lg_s⟩ ⟨mPc_blind tx_ok, fun U hU hW => ⟨rfl, by rw [hU]; exact hR, Wd.moved tx_ok hw hW (by rw [hU]; exact hS.1) (fun q q1 q2 => by rw [hU]; exact hS.2.1 q q1 q2)⟩⟩ rfl rfl hls hst (lv_room hcat') hd ⟨hrc, hrs⟩) hS kk
theorem line_ok {n : Nat} (hfl : l.stackTraces = false) (hg : ∀ i, g (32 + i) = z0 + i) (hSn : Snd2 l (TxW z0 g av) z0 g D dT sc n) : LineOk2 l (TxW z0 g av) z0 g D dT sc n := by
  intro p e R s m args below meth c H locs cells slots Q ls mid pc y d i ws S h h' v C0 hw hS hR hls hd hk hyl hcat hrcv he w1 w2 w3 w4 hf hlo hrc hrs kk
  subst w1; subst w2; subst w3; subst w4
  unfold e_line at he
  split at he
  · rename_i a p0 p1 p2 p3 o hav
    split at he
    · rename_i fs hca
      split at he
      · rename_i w hw2
        split at he
        · rename_i b h0 hk0
          have m0 := (hSn _ _ _ _ _ _ _ _ hk0).1
          split at he
          · rename_i hcond
            cases he
            have e1 : (h0 ++ [exN]).length - h.length = h0.length - h.length + 1 := by rw [List.length_append, List.length_singleton]; omega
            have e2 : hz (h0 ++ [exN]) - hz h = hz h0 - hz h + 6 := by rw [hz_app, show e_sz exN = 6 from rfl]; omega
            rw [e1] at hrc kk
            rw [e2] at hrs kk
            exact line_call C0 hw hS hR hls hd hcat (line_thr hfl hg hSn hca hw2 hk0 hcond) hav hf hlo hrc hrs kk
          · split at he
            · rename_i v1 h1 hk1
              split at he
              · rename_i n1 f hco
                split at he
                · rename_i hn1
                  cases he
                  obtain ⟨j, ha, -, hj⟩ := e_c_inv hca
                  obtain ⟨jo, ho, hjo0, hjo⟩ := e_c_inv hco
                  rw [hjo0] at hrc hrs kk
                  have e1 : (h1.set jo (.inl (2, n1, .inr (.inl (vp_updL f 0 v1.toInt64))))).length - h.length = h1.length - h.length := by rw [List.length_set]
                  have e2 : hz (h1.set jo (.inl (2, n1, .inr (.inl (vp_updL f 0 v1.toInt64))))) - hz h = hz h1 - hz h := by rw [hz_set (e' := .inl (2, n1, .inr (.inl (vp_updL f 0 v1.toInt64)))) hjo rfl]
                  rw [e1] at hrc kk
                  rw [e2] at hrs kk
                  rw [ha] at hk1 hav
                  rw [ho] at hav
                  exact line_call C0 hw hS hR hls hd hcat (line_ret hg hSn hj hk1 hjo hn1) hav hf hlo hrc hrs kk
                · cases he
              · cases he
            · cases he
        · cases he
      · cases he
    · cases he
  · cases he
theorem snd_law (hfl : l.stackTraces = false) (hg : ∀ i, g (32 + i) = z0 + i) : ∀ n, Snd2 l (TxW z0 g av) z0 g D dT sc n :=
  snd_all2 tx_ok hg (int_ok hg text_ok) (fun _ hSn => line_ok hfl hg hSn)
end LINEOK
