/-! writes, and cells that come -/
theorem cv_dflt (g : Nat → Nat) (ty : FieldType) : cv g (defaultValue ty) = defaultValue ty := by cases ty <;> rfl
theorem map_getD {α β : Type} (f : α → β) (d : α) (d' : β) (hd : f d = d') (l : List α) (j : Nat) : (l.map f).getD j d' = f (l.getD j d) := by
  rw [List.getD_eq_getElem?_getD, List.getD_eq_getElem?_getD, List.getElem?_map]
  cases l[j]? with
  | none => exact hd.symm
  | some v => rfl
theorem e_wr_mono {i : Instr} {x y : Nat} {S S' : List Value} {h h' : aH} (he : e_wr i x y S h = some (S', h')) : h.length ≤ h'.length ∧ hz h ≤ hz h' := by
  have keyS : ∀ {a : Nat} {e0 e1 : aE}, e_c h a = some e0 → e_sz e1 = e_sz e0 → h.length ≤ (h.set (a - 32) e1).length ∧ hz h ≤ hz (h.set (a - 32) e1) := by
    intro a e0 e1 hc hs
    obtain ⟨j, -, ha, hj⟩ := e_c_inv hc
    rw [ha]
    exact ⟨by rw [List.length_set]; exact Nat.le_refl _, by rw [hz_set hj hs]; exact Nat.le_refl _⟩
  have keyA : ∀ e1 : aE, h.length ≤ (h ++ [e1]).length ∧ hz h ≤ hz (h ++ [e1]) := fun e1 => ⟨by simp, by rw [hz_app]; omega⟩
  unfold e_wr at he
  split at he
  · split at he
    · split at he
      · rename_i a0 r0 _ ci0 fs0 hc
        cases hcnd : (Nat.beq ci0 x && Nat.blt y fs0.length && e_fit (pTy x y) _) with
        | true =>
          rw [hcnd] at he
          cases he
          exact keyS hc (by simp [e_sz])
        | false =>
          rw [hcnd] at he
          cases he
      · cases he
    · cases he
  · split at he
    · split at he
      · rename_i hc
        split at he
        · cases he; exact keyS hc rfl
        · cases he
      · cases he
    · cases he
  · split at he
    · split at he
      · rename_i hc
        split at he
        · cases he; exact keyS hc rfl
        · cases he
      · cases he
    · cases he
  · split at he
    · split at he
      · rename_i hc
        split at he
        · cases he; exact keyS hc rfl
        · cases he
      · cases he
    · cases he
  · split at he
    · split at he
      · rename_i hc
        split at he
        · split at he
          · cases he; exact keyS hc rfl
          · cases he
        · cases he
      · cases he
    · cases he
  · cases he; exact keyA _
  · split at he
    · split at he
      · cases he; exact keyA _
      · cases he
    · cases he
  · split at he
    · split at he
      · cases he; exact keyA _
      · cases he
    · cases he
  · cases he
section WR
variable {p : Program} {l : Launch} {e : Env} {R : Room} {s : State} {m : MethodId} {args : Array Value} {below : List Frame} {meth : Method} {c : Code} {H : Heap} {locs : List Loc} {cells slots : Nat} {Q : State → Prop}
variable {ls : Array Slot} {mid pc x y : Nat} {g : Nat → Nat} {i : Instr} {ws : List Nat} {S S' : List Value}
variable {TX : State → Prop} {z0 : Nat} {D : va_G} {dT : Nat → ClassId} {sc : aS} {h h' : aH}
theorem keep_counts {j : Nat} {e0 e1 : aE} (hj : h[j]? = some e0) (hs : e_sz e1 = e_sz e0) (P : Nat → Nat → Prop) (hP : P (cells + ((h.set j e1).length - h.length)) (slots + (hz (h.set j e1) - hz h))) : P cells slots := by
  rw [List.length_set, hz_set hj hs, Nat.sub_self, Nat.sub_self] at hP
  exact hP
theorem snd_put (C0 : Cx mid p s m args meth c) (hw : Wd TX z0 g D dT sc s) (hg : ∀ i, g (32 + i) = z0 + i) (hS : va_S (fun q => z0 ≤ q) s.heap H locs) (hR : Rp z0 g D dT h H) {ix : Nat} (hd : decode (pB mid) pc = .ok (.putfield ix, 3)) (hk : ckX mid pc (.putfield ix) x y ws = true)
    {v : Value} {r : List Value} {j : Nat} {fs : List Value} (hj : h[j]? = some (.inr (x, fs))) (hl : y < fs.length) (hfit : e_fit (pTy x y) v = true)
    (kk : ∀ (H1 : Heap) (locs1 : List Loc), va_S (fun q => z0 ≤ q) s.heap H1 locs1 → Rp z0 g D dT (h.set j (.inr (x, fs.set y v))) H1 → W p l e R s m args below meth c H1 locs1 cells slots Q (F0 m (pc + 3) ls (r.map (cv g)))) :
    W p l e R s m args below meth c H locs cells slots Q (F0 m pc ls ((v :: .ref (32 + j) :: r).map (cv g))) := by
  obtain ⟨hx, hb, hr, hlocks, hml, hown, hts, hin0⟩ := C0
  obtain ⟨hK, hz0, hAO, hRO, hSt, hTxt, hTX⟩ := hw
  have hk' := hk
  simp only [ckX] at hk'
  cases hcl : pCl[x]? with
  | none => rw [hcl] at hk'; cases hk'
  | some q =>
    obtain ⟨C, T, N⟩ := q
    rw [hcl] at hk'
    simp only [Bool.and_eq_true] at hk'
    have hyN := Nat.blt_eq.mp hk'.1
    obtain ⟨hin, hnm, hty, -, -⟩ := pC_in hcl
    have hap := va_apart (own := (pY mid).cls) hts hin (pTy x) hty hnm hK hcl
    obtain ⟨hn9, hf9⟩ := e_fit_ok (g := g) hfit
    have hjl := (List.getElem?_eq_some_iff.mp hj).1
    have hat := hR.2 j _ hj
    obtain ⟨r0, h1, cell, q1, q2, q3, q4⟩ := hat
    have hr0 : r0 = (C, T, N) := Option.some.inj (h1.symm.trans hcl)
    subst hr0
    obtain ⟨hSl, hfc, kC, hkC, hkind⟩ := hK.1 x _ hcl
    obtain ⟨cf, kf, fi, f, hi, hsl⟩ := hSl y hyN
    have hst := (u_facts hfc hkC (u_lays hts hin hyN) hi).1
    have hlt : f.slot < cell.slots.size := by rw [hsl]; exact k2_hasslot (q4 y hyN)
    have hfl : y < (fs.map (cv g)).length := by rw [List.length_map]; exact hl
    have fin : ∀ H' : Heap, H'[z0 + j]? = some (cell.setSlot f.slot (cv g v)) → H'.size = H.size → (∀ q, q ≠ z0 + j → H'[q]? = H[q]?) → W p l e R s m args below meth c H' (locs ++ [⟨z0 + j, f.slot⟩]) cells slots Q (F0 m (pc + 3) ls (r.map (cv g))) := by
      intro H' e1 e2 e3
      refine kk H' _ (hS.put e2 e3 (Nat.le_add_right z0 j)) (hR.set hjl ?_ e2 e3)
      rw [hsl] at e1
      show va_at D pCl (z0 + j, .inr (x, (fs.set y v).map (cv g))) H'
      rw [List.map_set]
      exact ⟨_, hcl, t_OB.to (V := updV (vp_V (fs.map (cv g))) y (cv g v)) ⟨_, e1, q2, q3, t_set q4 hap hyN (cv g v)⟩ (fun k _ => vp_updV_set hfl (cv g v) k)⟩
    have e0 : (v :: .ref (32 + j) :: r).map (cv g) = cv g v :: .ref (z0 + j) :: r.map (cv g) := by
      simp only [List.map_cons, cv, hg]
    rw [e0]
    cases hfin : (T y).2.2.2 with
    | true =>
      rw [hfin] at hk'
      simp only [cond_true] at hk'
      have hk2 := hk'.2
      split at hk2
      · rename_i w
        simp only [Bool.and_eq_true, decide_eq_true_eq] at hk2
        obtain ⟨⟨e1, e2⟩, e3⟩ := hk2
        have hlay := hts _ (hin _ (u_in_lay hyN))
        unfold u_lay at hlay
        rw [if_pos hfin] at hlay
        have hcf : m.cls = cf := by
          obtain ⟨_, _, c', _, _, _, -, -, hf', -, -, -, hown2, -⟩ := Cond.laysFinal_spec hlay
          have e9 : c' = cf := by have := hi.symm.trans hf'; simp at this; exact this.1.symm
          rw [e2] at hown2
          rw [← e9]; exact Option.some.inj (hown.symm.trans hown2)
        have h6 := u_fits hfc hkC hkind (Or.inr hlay) hi (hty y hyN) hn9 hf9
        exact W.putFinK hx hb hown (hts _ (ckW_mem e1)) hi hst hcf (hin0 e3) (by rw [q2]; exact h6) q1 q3 hlt rfl rfl hd fin
      · cases hk2
    | false =>
      rw [hfin] at hk'
      simp only [cond_false] at hk'
      have hlay := hts _ (hin _ (u_in_lay hyN))
      unfold u_lay at hlay
      rw [if_neg (by rw [hfin]; decide)] at hlay
      have h6 := u_store hfc hkC hkind hlay hi (hty y hyN) hn9 hf9
      rcases ckF_inv hk'.2 with hl9 | hl9
      · exact W.putK hx hb (f := f) ⟨hown, hts _ hl9, ⟨_, _, _, hi⟩, hst⟩ (by rw [q2]; exact h6) q1 q3 hlt rfl rfl hd fin
      · exact va_WputK hx hb hown (hts _ hl9) hi hst (by rw [q2]; exact h6) q1 q3 hlt rfl rfl hd fin
theorem snd_wr (C0 : Cx mid p s m args meth c) (hw : Wd TX z0 g D dT sc s) (hg : ∀ i, g (32 + i) = z0 + i) (hS : va_S (fun q => z0 ≤ q) s.heap H locs) (hR : Rp z0 g D dT h H) (hd : decode (pB mid) pc = .ok (i, e_len i)) (hk : ckX mid pc i x y ws = true) (he : e_wr i x y S h = some (S', h'))
    (hrc : cells + (h'.length - h.length) ≤ R.cells) (hrs : slots + (hz h' - hz h) ≤ R.slots)
    (kk : ∀ (H1 : Heap) (locs1 : List Loc), va_S (fun q => z0 ≤ q) s.heap H1 locs1 → Rp z0 g D dT h' H1 → W p l e R s m args below meth c H1 locs1 (cells + (h'.length - h.length)) (slots + (hz h' - hz h)) Q (F0 m (pc + e_len i) ls (S'.map (cv g)))) : W p l e R s m args below meth c H locs cells slots Q (F0 m pc ls (S.map (cv g))) := by
  have C1 := C0
  have hw1 := hw
  obtain ⟨hx, hb, hr, hlocks, hml, hown, hts, hin0⟩ := C0
  obtain ⟨hK, hz0, hAO, hRO, hSt, hTxt, hTX⟩ := hw
  unfold e_wr at he
  split at he
  · rename_i ix
    split at he
    · rename_i v a r
      split at he
      · rename_i ci fs hc0
        obtain ⟨j, rfl, ha, hj⟩ := e_c_inv hc0
        rw [ha] at he
        cases hcx : (Nat.beq ci x && Nat.blt y fs.length && e_fit (pTy x y) v) with
        | false => rw [hcx] at he; cases he
        | true =>
          rw [hcx] at he
          simp only [Bool.and_eq_true] at hcx
          obtain ⟨⟨c1, c2⟩, c3⟩ := hcx
          have e1 := Nat.eq_of_beq_eq_true c1
          subst e1
          cases he
          exact snd_put C1 hw1 hg hS hR hd hk hj (Nat.blt_eq.mp c2) c3 (fun H1 locs1 a1 a2 => keep_counts (e1 := .inr (ci, fs.set y v)) hj (by simp [e_sz]) (fun a b => W p l e R s m args below meth c H1 locs1 a b Q (F0 m (pc + 3) ls (S'.map (cv g)))) (kk H1 locs1 a1 a2))
      · cases he
    · cases he
  · split at he
    · rename_i v k a r
      split at he
      · rename_i n f hc0
        obtain ⟨j, rfl, ha, hj⟩ := e_c_inv hc0
        rw [ha] at he
        split at he
        · rename_i hin
          cases he
          have hjl := (List.getElem?_eq_some_iff.mp hj).1
          have hcell : H[g (32 + j)]? = some (vp_cell (dT 0) (n, .inl f)) := by rw [hg]; exact hR.2 j _ hj
          refine W.iast hx hb hcell ((hK.2 0 _ rfl).1 n (fun j => .int (f j))) (fun q => by cases q) (by show ¬ (k < 0 ∨ (arrV _ _ _).slots.size ≤ _); rw [arrV_size]; exact hin) rfl rfl hd fun H1 e1 z1 o1 => ?_
          refine keep_counts (e1 := .inl (0, n, .inl (upd f k.toNatClampNeg v))) hj rfl (fun a b => W p l e R s m args below meth c H1 (locs ++ [⟨g (32 + j), k.toNatClampNeg⟩]) a b Q (F0 m (pc + 1) ls (S'.map (cv g)))) (kk H1 _ (hS.put z1 o1 (by rw [hg]; exact Nat.le_add_right z0 j)) (hR.set hjl ?_ z1 (by rw [hg] at o1; exact o1)))
          show H1[z0 + j]? = some (vp_cell _ _)
          rw [hg] at e1
          rw [e1, vp_cell_i, vp_cell_i, arrV_store]
          congr 2
          funext q
          by_cases hq : q = k.toNatClampNeg
          · subst hq
            simp [updV, upd]
          · simp [updV, upd, hq]
        · cases he
      · cases he
    · cases he
  · split at he
    · rename_i v k a r
      split at he
      · rename_i n f hc0
        obtain ⟨j, rfl, ha, hj⟩ := e_c_inv hc0
        rw [ha] at he
        split at he
        · rename_i hin
          cases he
          have hjl := (List.getElem?_eq_some_iff.mp hj).1
          have hcell : H[g (32 + j)]? = some (vp_cell (dT 1) (n, .inl f)) := by rw [hg]; exact hR.2 j _ hj
          refine W.bast hx hb hcell ((hK.2 1 _ rfl).1 n (fun j => .int (f j))) (fun q => by cases q) (by show ¬ (k < 0 ∨ (arrV _ _ _).slots.size ≤ _); rw [arrV_size]; exact hin) rfl rfl hd fun H1 e1 z1 o1 => ?_
          refine keep_counts (e1 := .inl (1, n, .inl (upd f k.toNatClampNeg (vp_nar .byte v)))) hj rfl (fun a b => W p l e R s m args below meth c H1 (locs ++ [⟨g (32 + j), k.toNatClampNeg⟩]) a b Q (F0 m (pc + 1) ls (S'.map (cv g)))) (kk H1 _ (hS.put z1 o1 (by rw [hg]; exact Nat.le_add_right z0 j)) (hR.set hjl ?_ z1 (by rw [hg] at o1; exact o1)))
          show H1[z0 + j]? = some (vp_cell _ _)
          rw [hg] at e1
          rw [e1, vp_cell_i, vp_cell_i, arrV_store]
          congr 2
          funext q
          by_cases hq : q = k.toNatClampNeg
          · subst hq
            simp [updV, upd, vp_nar]
            try rfl
          · simp [updV, upd, hq]
        · cases he
      · cases he
    · cases he
  · split at he
    · rename_i v k a r
      split at he
      · rename_i n f hc0
        obtain ⟨j, rfl, ha, hj⟩ := e_c_inv hc0
        rw [ha] at he
        split at he
        · rename_i hin
          cases he
          have hjl := (List.getElem?_eq_some_iff.mp hj).1
          have hcell : H[g (32 + j)]? = some (vp_cell (dT 2) (n, .inr (.inl f))) := by rw [hg]; exact hR.2 j _ hj
          refine W.last hx hb hcell ((hK.2 2 _ rfl).1 n (fun j => .long (f j))) (fun q => by cases q) (by show ¬ (k < 0 ∨ (arrV _ _ _).slots.size ≤ _); rw [arrV_size]; exact hin) rfl rfl hd fun H1 e1 z1 o1 => ?_
          refine keep_counts (e1 := .inl (2, n, .inr (.inl (vp_updL f k.toNatClampNeg v)))) hj rfl (fun a b => W p l e R s m args below meth c H1 (locs ++ [⟨g (32 + j), k.toNatClampNeg⟩]) a b Q (F0 m (pc + 1) ls (S'.map (cv g)))) (kk H1 _ (hS.put z1 o1 (by rw [hg]; exact Nat.le_add_right z0 j)) (hR.set hjl ?_ z1 (by rw [hg] at o1; exact o1)))
          show H1[z0 + j]? = some (vp_cell _ _)
          rw [hg] at e1
          rw [e1, vp_cell_l, vp_cell_l, arrV_store]
          congr 2
          funext q
          by_cases hq : q = k.toNatClampNeg
          · subst hq
            simp [updV, vp_updL]
          · simp [updV, vp_updL, hq]
        · cases he
      · cases he
    · cases he
  · split at he
    · rename_i bb k a r
      split at he
      · rename_i n f hc0
        obtain ⟨j, rfl, ha, hj⟩ := e_c_inv hc0
        rw [ha] at he
        split at he
        · rename_i ci fs hc1
          obtain ⟨j1, rfl, -, hj1⟩ := e_c_inv hc1
          split at he
          · rename_i hin
            obtain ⟨hin, hrow⟩ := hin
            cases he
            obtain ⟨q, hq, hq1⟩ := Option.map_eq_some_iff.mp hrow
            have hjl := (List.getElem?_eq_some_iff.mp hj).1
            have hlt : k.toNatClampNeg < n := Nat.not_le.mp fun q => hin (Or.inr q)
            have h0 : ¬ k < 0 := fun q => hin (Or.inl q)
            have hcell : H[g (32 + j)]? = some (vp_cell (dT 3) (n, .inr (.inr (.inr (.inr (fun z => (f z).map g)))))) := by rw [hg]; exact hR.2 j _ hj
            obtain ⟨r', hr', cellV, g1, g2, g3, -⟩ := hR.2 j1 _ hj1
            have hcls := (hK.1 ci q hq).2
            obtain ⟨kA, comp, k1, k2, k3, -⟩ := (hK.2 3 _ rfl).2
            rw [← hq1] at k3
            have hcomp : comp = D.1 ci := Option.some.inj (k3.symm.trans hcls.1)
            subst hcomp
            have hcls' := hcls
            obtain ⟨kC, hkC, -⟩ := hcls.2
            refine W.aast (v := g (32 + j1)) hx hb hcell (fun q h => by cases h) (fun h => by cases h) k1 k2 rfl hkC ⟨h0, by show _ < (arrV _ _ _).slots.size; rw [arrV_size]; exact hlt⟩ (by rw [hg]; exact g1) (fun q h => by rw [g3] at h; cases h) (by rw [g2]; exact hkC) (by rw [g2]; exact va_assign hcls') rfl rfl hd fun H1 e1 z1 o1 => ?_
            refine keep_counts (e1 := .inl (3, n, .inr (.inr (va_up f k.toNatClampNeg (some (32 + j1)))))) hj rfl (fun a b => W p l e R s m args below meth c H1 (locs ++ [⟨g (32 + j), k.toNatClampNeg⟩]) a b Q (F0 m (pc + 1) ls (S'.map (cv g)))) (kk H1 _ (hS.put z1 o1 (by rw [hg]; exact Nat.le_add_right z0 j)) (hR.set hjl ?_ z1 (by rw [hg] at o1; exact o1)))
            show H1[z0 + j]? = some (vp_cell _ _)
            rw [← hg j, e1, vp_cell_q, vp_cell_q, arrV_store]
            congr 2
            funext q
            by_cases hq : q = k.toNatClampNeg
            · subst hq
              simp [updV, va_up, va_rf]
            · simp [updV, va_up, hq]
          · cases he
        · cases he
      · cases he
    · cases he
  · rename_i ix
    cases he
    have hk' := hk
    simp only [ckX] at hk'
    split at hk'
    · rename_i C T N w w1 w2 hcl
      simp only [Bool.and_eq_true] at hk'
      obtain ⟨⟨e1, e2⟩, e3⟩ := hk'
      obtain ⟨hin, hnm, hty, hdf, hlen⟩ := pC_in hcl
      have hKn := hK.1 x _ hcl
      have hl1 : (h ++ [(.inr (x, pF x) : aE)]).length - h.length = 1 := by simp
      have hz1 : hz (h ++ [(.inr (x, pF x) : aE)]) - hz h = N := by rw [hz_app, Nat.add_sub_cancel_left]; exact hlen
      rw [hl1] at hrc kk
      rw [hz1] at hrs kk
      refine W.newcK hx hb hown (hts _ (ckW_mem e1)) (hts _ (ckW_mem e2)) (hts _ (ckW_mem e3)) rfl hd hrc hrs hKn.2.1 rfl fun H1 kC hkC e1 z1 o1 => ?_
      have hsz := hR.1
      have hat : va_at D pCl (z0 + h.length, cE g dT (.inr (x, pF x))) H1 := by
        rw [← hsz]
        refine ⟨_, hcl, (u_born (pTy x) hts hin hKn hkC e1 hty).to (fun k hk => ?_)⟩
        show defaultValue (pTy x k) = ((pF x).map (cv g)).getD k .null
        rw [map_getD (cv g) .null .null rfl]
        rw [show (pF x).getD k .null = defaultValue (pTy x k) from (hdf k hk).symm, cv_dflt]
      have kk1 := kk H1 locs (hS.same z1 o1) (hR.push hat z1 o1)
      rw [List.map_cons, show cv g (.ref (32 + h.length)) = .ref H.size by rw [hsz]; simp only [cv, hg]] at kk1
      exact kk1
    · cases hk'
  · rename_i t
    split at he
    · rename_i n r
      split at he
      · rename_i hcnd
        cases he
        obtain ⟨hn, hbytes⟩ := hcnd
        have hk' := hk
        simp only [ckX] at hk'
        split at hk'
        · rename_i w
          simp only [Bool.and_eq_true] at hk'
          obtain ⟨e1, e2⟩ := hk'
          have hsz := hR.1
          have hl1 : ∀ e9 : aE, (h ++ [e9]).length - h.length = 1 := fun e9 => by simp
          have hz1 : ∀ c9 : aA, hz (h ++ [(.inl (x, n.toNatClampNeg, c9) : aE)]) - hz h = n.toNatClampNeg := fun c9 => by rw [hz_app, Nat.add_sub_cancel_left]; rfl
          rw [hl1] at hrc kk
          rw [hz1] at hrs kk
          refine va_newaK hx hb (hts _ (ckW_mem e1)) rfl hd rfl hn rfl (Nat.le_trans (Nat.mul_le_mul_left _ (by cases t <;> simp [newarray.typeOf, componentBytes])) hbytes) hrc hrs rfl fun H1 cA e3 z1 o1 hAr hNm => ?_
          have hat : va_at D pCl (z0 + h.length, cE g dT (.inl (x, n.toNatClampNeg, bif Nat.beq x 2 then .inr (.inl (fun _ => 0)) else .inl (fun _ => 0)))) H1 := by
            rw [← hsz]
            cases t <;> first | (exact absurd (show false = true from e2) (by decide)) | skip
            all_goals (have ex := Nat.eq_of_beq_eq_true e2; subst ex)
            · have hA0 : cA = dT 1 := Option.some.inj (hNm.symm.trans (hK.2 1 _ rfl).2)
              subst hA0
              exact e3
            · have hA0 : cA = dT 0 := Option.some.inj (hNm.symm.trans (hK.2 0 _ rfl).2)
              subst hA0
              exact e3
            · have hA0 : cA = dT 2 := Option.some.inj (hNm.symm.trans (hK.2 2 _ rfl).2)
              subst hA0
              exact e3
          have kk1 := kk H1 locs (hS.same z1 o1) (hR.push hat z1 o1)
          rw [List.map_cons, show cv g (.ref (32 + h.length)) = .ref H.size by rw [hsz]; simp only [cv, hg]] at kk1
          exact kk1
        · cases hk'
      · cases he
    · cases he
  · rename_i ix
    split at he
    · rename_i n r
      split at he
      · rename_i hcnd
        cases he
        obtain ⟨hn, hbytes⟩ := hcnd
        have hk' := hk
        simp only [ckX] at hk'
        split at hk'
        · rename_i w
          have hsz := hR.1
          have hl1 : ∀ e9 : aE, (h ++ [e9]).length - h.length = 1 := fun e9 => by simp
          have hz1 : ∀ c9 : aA, hz (h ++ [(.inl (3, n.toNatClampNeg, c9) : aE)]) - hz h = n.toNatClampNeg := fun c9 => by rw [hz_app, Nat.add_sub_cancel_left]; rfl
          rw [hl1] at hrc kk
          rw [hz1] at hrs kk
          refine W.anew hx hb hown (hts _ (ckW_mem hk')) (va_AO.use hAO) rfl hd rfl hn (by omega) hrc hrs fun cA kA comp f1 f2 f3 f4 => ?_
          generalize hH1 : H.push ({ cls := cA, slots := Array.replicate n.toNatClampNeg .null, vm := .none } : Cell) = H1
          have z1 : H1.size = H.size + 1 := by rw [← hH1, Array.size_push]
          have e1 : H1[H.size]? = some (arrV cA n.toNatClampNeg (fun _ => .null)) := by rw [← hH1, Array.getElem?_push_size, ← arrV_new]
          have o1 : ∀ q : Nat, q < H.size → H1[q]? = H[q]? := fun q hq => by rw [← hH1, Array.getElem?_push, if_neg (Nat.ne_of_lt hq)]
          obtain ⟨_, _, _, _, _, k4⟩ := (hK.2 3 _ rfl).2
          have hA0 : cA = dT 3 := Option.some.inj (f1.symm.trans k4)
          subst hA0
          have hat : va_at D pCl (z0 + h.length, cE g dT (.inl (3, n.toNatClampNeg, .inr (.inr (fun _ => none))))) H1 := by
            rw [← hsz]
            exact e1
          have kk1 := kk H1 locs (hS.same z1 o1) (hR.push hat z1 o1)
          rw [List.map_cons, show cv g (.ref (32 + h.length)) = .ref H.size by rw [hsz]; simp only [cv, hg]] at kk1
          exact kk1
        · cases hk'
      · cases he
    · cases he
  · cases he
end WR
