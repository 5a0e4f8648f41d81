theorem pT_ok {mid pc : Nat} {i : Instr} {nx x y : Nat} (h : pT mid pc = some (i, nx, x, y)) : ∃ ws : List Nat, decode (pB mid) pc = .ok (i, nx - pc) ∧ pc ≤ nx ∧ (e_isw i = true ∨ nx = pc + e_len i) ∧ ckX mid pc i x y ws = true := by
  unfold pT at h
  cases hf : (pL mid).find? (fun q => q.1 == pc) with
  | none => rw [hf] at h; cases h
  | some q =>
    rw [hf] at h
    obtain ⟨pc', t, ws⟩ := q
    have h1 : t = (i, nx, x, y) := Option.some.inj h
    subst h1
    have h2 : pc' = pc := by simpa using List.find?_some hf
    subst h2
    have h3 := ck_all mid _ (List.mem_of_find?_eq_some hf)
    simp only [ckE, Bool.and_eq_true, decide_eq_true_eq, Bool.or_eq_true] at h3
    obtain ⟨⟨⟨a, b⟩, c⟩, d⟩ := h3
    exact ⟨ws, a, Nat.ble_eq.mp b, c.imp id Nat.eq_of_beq_eq_true, d⟩
section ALL
def IntOk (l : Launch) (TX : State → Prop) (z0 : Nat) (g : Nat → Nat) (D : va_G) (dT : Nat → ClassId) (sc : aS) : Prop :=
  ∀ (p : Program) (e : Env) (R : Room) (s : State) (m : MethodId) (args : Array Value) (below : List Frame) (meth : Method) (c : Code) (H : Heap) (locs : List Loc) (cells slots : Nat) (Q : State → Prop) (ls : Array Slot) (mid pc x y d : Nat) (i : Instr) (ws : List Nat) (S : List Value) (h h' : aH) (v : Option Value),
    Cx mid p s m args meth c → Wd TX z0 g D dT sc s → va_S (fun q => z0 ≤ q) s.heap H locs → Rp z0 g D dT h H → ls.size = pM mid → decode (pB mid) pc = .ok (i, e_len i) → ckX mid pc i x y ws = true → Nat.blt x 1000 = false → y ≤ S.length → e_cat (S.drop y) = true → e_rcv i x (S.take y).reverse h = true →
    e_int sc x (S.take y).reverse h = some (v, h') → (Nat.blt x 1004 || Nat.ble 8 d) = true → d + 1 ≤ R.frames → 41 * (d + 1) ≤ R.locals → cells ≤ R.cells → slots ≤ R.slots →
    (∀ (H1 : Heap) (locs1 : List Loc), va_S (fun q => z0 ≤ q) s.heap H1 locs1 → Rp z0 g D dT h' H1 → W p l e R s m args below meth c H1 locs1 cells slots Q (F0 m (pc + e_len i) ls ((v.toList ++ S.drop y).map (cv g)))) →
    W p l e R s m args below meth c H locs cells slots Q (F0 m pc ls (S.map (cv g)))
def LineOk (l : Launch) (TX : State → Prop) (z0 : Nat) (g : Nat → Nat) (D : va_G) (dT : Nat → ClassId) (sc : aS) (n : Nat) : Prop :=
  ∀ (p : Program) (e : Env) (R : Room) (s : State) (m : MethodId) (args : Array Value) (below : List Frame) (meth : Method) (c : Code) (H : Heap) (locs : List Loc) (cells slots : Nat) (Q : State → Prop) (ls : Array Slot) (mid pc y d : Nat) (i : Instr) (ws : List Nat) (S : List Value) (h h' : aH) (v : Option Value),
    Cx mid p s m args meth c → Wd TX z0 g D dT sc s → va_S (fun q => z0 ≤ q) s.heap H locs → Rp z0 g D dT h H → ls.size = pM mid → decode (pB mid) pc = .ok (i, e_len i) → ckX mid pc i 1007 y ws = true → y ≤ S.length → e_cat (S.drop y) = true → e_rcv i 1007 (S.take y).reverse h = true →
    e_line (ev sc n) d (S.take y).reverse h = some (v, h') → d + 1 ≤ R.frames → 41 * (d + 1) ≤ R.locals → cells + (h'.length - h.length) ≤ R.cells → slots + (hz h' - hz h) ≤ R.slots →
    (∀ (H1 : Heap) (locs1 : List Loc), va_S (fun q => z0 ≤ q) s.heap H1 locs1 → Rp z0 g D dT h' H1 → W p l e R s m args below meth c H1 locs1 (cells + (h'.length - h.length)) (slots + (hz h' - hz h)) Q (F0 m (pc + e_len i) ls ((v.toList ++ S.drop y).map (cv g)))) →
    W p l e R s m args below meth c H locs cells slots Q (F0 m pc ls (S.map (cv g)))
theorem e_int_len {sc : aS} {x : Nat} {av : List Value} {h h' : aH} {v : Option Value} (he : e_int sc x av h = some (v, h')) : h'.length = h.length ∧ hz h' = hz h := by
  unfold e_int at he
  split at he
  · cases he; exact ⟨rfl, rfl⟩
  · cases he; exact ⟨rfl, rfl⟩
  · cases he; exact ⟨rfl, rfl⟩
  · split at he
    · rename_i hc
      split at he
      · cases he
        obtain ⟨j, -, ha, hj⟩ := e_c_inv hc
        rw [ha]
        exact ⟨List.length_set, hz_set hj rfl⟩
      · cases he
    · cases he
  · obtain ⟨t, -, he⟩ := Option.map_eq_some_iff.mp he
    cases he; exact ⟨rfl, rfl⟩
  · split at he
    · split at he
      · cases he; exact ⟨rfl, rfl⟩
      · cases he
    · cases he
  · split at he
    · split at he
      · cases he; exact ⟨rfl, rfl⟩
      · cases he
    · cases he
  · cases he
variable {l : Launch} {TX : State → Prop} {z0 : Nat} {g : Nat → Nat} {D : va_G} {dT : Nat → ClassId} {sc : aS}
theorem e_line_mono {n d : Nat} {av : List Value} {h h' : aH} {v : Option Value} (hSn : Snd l TX z0 g D dT sc n) (he : e_line (ev sc n) d av h = some (v, h')) : h.length ≤ h'.length ∧ hz h ≤ hz h' := by
  unfold e_line at he
  split at he
  · split at he
    · split at he
      · split at he
        · rename_i h0 hk0
          have m0 := (hSn _ _ _ _ _ _ _ _ hk0).1
          split at he
          · cases he
            exact ⟨by rw [List.length_append]; omega, by rw [hz_app]; omega⟩
          · split at he
            · rename_i h1 hk1
              have m1 := (hSn _ _ _ _ _ _ _ _ hk1).1
              split at he
              · rename_i hc
                split at he
                · cases he
                  obtain ⟨j, -, ha, hj⟩ := e_c_inv hc
                  rw [ha, List.length_set, hz_set (e := .inl (2, _, .inr (.inl _))) hj (by rfl)]
                  exact m1
                · cases he
              · cases he
            · cases he
        · cases he
      · cases he
    · cases he
  · cases he
theorem snd_all (hT : TxOk z0 TX) (hg : ∀ i, g (32 + i) = z0 + i) (hI : IntOk l TX z0 g D dT sc) (hLn : ∀ n, Snd l TX z0 g D dT sc n → LineOk l TX z0 g D dT sc n) : ∀ n, Snd l TX z0 g D dT sc n
  | 0 => fun d mid pc L S h r h' hev => by cases hev
  | n + 1 => fun d mid pc L S h r h' hev => by
    have ih := snd_all hT hg hI hLn n
    rw [ev_succ] at hev
    unfold evS at hev
    split at hev
    · rename_i i nx x y hpt
      obtain ⟨ws, hd, hle, hsw, hk⟩ := pT_ok hpt
      cases hi : e_isw i with
      | true =>
        have hev' : (match e_sw pc i S with
          | some (t, S') => ev sc n d mid t L S' h
          | none => e_call sc (ev sc n) d mid L S h i nx x y) = some (r, h') := by
          unfold e_isw at hi
          split at hi
          · exact hev
          · exact hev
          · cases hi
        split at hev'
        · rename_i t S' he
          have K := ih d mid t L S' h r h' hev'
          exact ⟨K.1, fun p e R s m args below meth c H locs cells slots ls C0 hw hS hR hl hf hlo hrc hrs => snd_sw C0.1 C0.2.1 hd hk he (K.2 p e R s m args below meth c H locs cells slots ls C0 hw hS hR hl hf hlo hrc hrs)⟩
        · unfold e_isw at hi
          unfold e_call e_rcv at hev'
          split at hi
          · simp at hev'
          · simp at hev'
          · cases hi
      | false =>
        have hnx : nx = pc + e_len i := by
          rcases hsw with q | q
          · rw [hi] at q; cases q
          · exact q
        subst hnx
        rw [Nat.add_sub_cancel_left] at hd
        unfold e_go at hev
        split at hev
        · rename_i S' he
          have K := ih d mid _ L S' h r h' hev
          exact ⟨K.1, fun p e R s m args below meth c H locs cells slots ls C0 hw hS hR hl hf hlo hrc hrs => snd_op C0.1 C0.2.1 hd hk he (K.2 p e R s m args below meth c H locs cells slots ls C0 hw hS hR hl hf hlo hrc hrs)⟩
        · split at hev
          · rename_i v he
            have K := ih d mid _ L (v :: S) h r h' hev
            exact ⟨K.1, fun p e R s m args below meth c H locs cells slots ls C0 hw hS hR hl hf hlo hrc hrs => snd_lo C0.1 C0.2.1 hd hl he (K.2 p e R s m args below meth c H locs cells slots ls C0 hw hS hR hl hf hlo hrc hrs)⟩
          · split at hev
            · rename_i b S' he
              have K := ih d mid (bif b then x else pc + e_len i) L S' h r h' (by cases b <;> exact hev)
              exact ⟨K.1, fun p e R s m args below meth c H locs cells slots ls C0 hw hS hR hl hf hlo hrc hrs => snd_br C0.1 C0.2.1 hd hk he (K.2 p e R s m args below meth c H locs cells slots ls C0 hw hS hR hl hf hlo hrc hrs)⟩
            · split at hev
              · rename_i S' he
                have K := ih d mid _ L S' h r h' hev
                exact ⟨K.1, fun p e R s m args below meth c H locs cells slots ls C0 hw hS hR hl hf hlo hrc hrs => snd_rd C0 hw hg hS hR hd hk he (K.2 p e R s m args below meth c H locs cells slots ls C0 hw hS hR hl hf hlo hrc hrs)⟩
              · split at hev
                · rename_i L' S' he
                  have K := ih d mid _ L' S' h r h' hev
                  exact ⟨K.1, fun p e R s m args below meth c H locs cells slots ls C0 hw hS hR hl hf hlo hrc hrs => snd_sto C0.1 C0.2.1 hd hk hl he (fun ls' hl' => K.2 p e R s m args below meth c H locs cells slots ls' C0 hw hS hR hl' hf hlo hrc hrs)⟩
                · split at hev
                  · rename_i S' h1 he
                    have K := ih d mid _ L S' h1 r h' hev
                    have M := e_wr_mono he
                    refine ⟨⟨by omega, by omega⟩, fun p e R s m args below meth c H locs cells slots ls C0 hw hS hR hl hf hlo hrc hrs => ?_⟩
                    refine snd_wr C0 hw hg hS hR hd hk he (by omega) (by omega) (fun H1 locs1 hS1 hR1 => ?_)
                    have K1 := K.2 p e R s m args below meth c H1 locs1 (cells + (h1.length - h.length)) (slots + (hz h1 - hz h)) ls C0 hw hS1 hR1 hl hf hlo (by omega) (by omega)
                    rw [show cells + (h1.length - h.length) + (h'.length - h1.length) = cells + (h'.length - h.length) by omega, show slots + (hz h1 - hz h) + (hz h' - hz h1) = slots + (hz h' - hz h) by omega] at K1
                    exact K1
                  · split at hev
                    · rename_i v he
                      cases hev
                      refine ⟨⟨Nat.le_refl _, Nat.le_refl _⟩, fun p e R s m args below meth c H locs cells slots ls C0 hw hS hR hl hf hlo hrc hrs => ?_⟩
                      rw [Nat.sub_self, Nat.sub_self, Nat.add_zero, Nat.add_zero]
                      exact snd_ret C0 hS hR hd he
                    · split at hev
                      · rename_i t S' he
                        exfalso
                        unfold e_sw at he
                        unfold e_isw at hi
                        split at he <;> simp at hi he
                      · unfold e_call at hev
                        cases hcnd : (Nat.ble y S.length && e_cat (S.drop y) && e_rcv i x (S.take y).reverse h && (Nat.blt 999 x || Nat.ble ((S.take y).map fun v => v.category).sum (pM x))) with
                        | false => rw [hcnd] at hev; cases hev
                        | true =>
                          rw [hcnd] at hev
                          simp only [Bool.and_eq_true, cond_true] at hcnd hev
                          obtain ⟨⟨⟨c1, c2⟩, c3⟩, c4⟩ := hcnd
                          have hyl := Nat.ble_eq.mp c1
                          split at hev
                          · cases hev
                          · rename_i d'
                            cases hx9 : Nat.blt x 1000 with
                            | true =>
                              rw [hx9] at hev
                              simp only [cond_true] at hev
                              have hsum : ((S.take y).map fun v => v.category).sum ≤ pM x := by
                                rcases Bool.or_eq_true_iff.mp c4 with q | q
                                · have := Nat.blt_eq.mp q
                                  have := Nat.blt_eq.mp hx9
                                  omega
                                · exact Nat.ble_eq.mp q
                              split at hev
                              · rename_i v h1 he
                                have M := (ih _ _ _ _ _ _ _ _ he).1
                                have K := ih (d' + 1) mid _ L _ h1 r h' hev
                                refine ⟨⟨by omega, by omega⟩, fun p e R s m args below meth c H locs cells slots ls C0 hw hS hR hl hf hlo hrc hrs => ?_⟩
                                refine snd_call hT hg ih C0 hw hS hR hl.1 hd hk hx9 hyl c2 c3 hsum he hf hlo (by omega) (by omega) (fun H1 locs1 hS1 hR1 => ?_)
                                have K1 := K.2 p e R s m args below meth c H1 locs1 (cells + (h1.length - h.length)) (slots + (hz h1 - hz h)) ls C0 hw hS1 hR1 hl hf hlo (by omega) (by omega)
                                rw [show cells + (h1.length - h.length) + (h'.length - h1.length) = cells + (h'.length - h.length) by omega, show slots + (hz h1 - hz h) + (hz h' - hz h1) = slots + (hz h' - hz h) by omega] at K1
                                exact K1
                              · cases hev
                            | false =>
                              rw [hx9] at hev
                              simp only [cond_false] at hev
                              cases hx7 : Nat.beq x 1007 with
                              | true =>
                                rw [hx7] at hev
                                simp only [cond_true] at hev
                                have hx8 := Nat.eq_of_beq_eq_true hx7
                                subst hx8
                                split at hev
                                · rename_i v h1 he
                                  have M := e_line_mono ih he
                                  have K := ih (d' + 1) mid _ L _ h1 r h' hev
                                  refine ⟨⟨by omega, by omega⟩, fun p e R s m args below meth c H locs cells slots ls C0 hw hS hR hl hf hlo hrc hrs => ?_⟩
                                  refine hLn n ih p e R s m args below meth c H locs cells slots _ ls mid pc y d' i ws S h h1 v C0 hw hS hR hl.1 hd hk hyl c2 c3 he hf hlo (by omega) (by omega) (fun H1 locs1 hS1 hR1 => ?_)
                                  have K1 := K.2 p e R s m args below meth c H1 locs1 (cells + (h1.length - h.length)) (slots + (hz h1 - hz h)) ls C0 hw hS1 hR1 hl hf hlo (by omega) (by omega)
                                  rw [show cells + (h1.length - h.length) + (h'.length - h1.length) = cells + (h'.length - h.length) by omega, show slots + (hz h1 - hz h) + (hz h' - hz h1) = slots + (hz h' - hz h) by omega] at K1
                                  exact K1
                                · cases hev
                              | false =>
                                rw [hx7] at hev
                                simp only [cond_false] at hev
                                cases hx4 : (Nat.blt x 1004 || Nat.ble 8 d') with
                                | false => rw [hx4] at hev; cases hev
                                | true =>
                                rw [hx4] at hev
                                simp only [cond_true] at hev
                                split at hev
                                · rename_i v h1 he
                                  obtain ⟨M1, M2⟩ := e_int_len he
                                  have K := ih (d' + 1) mid _ L _ h1 r h' hev
                                  rw [M1, M2] at K
                                  refine ⟨K.1, fun p e R s m args below meth c H locs cells slots ls C0 hw hS hR hl hf hlo hrc hrs => ?_⟩
                                  exact hI p e R s m args below meth c H locs cells slots _ ls mid pc x y d' i ws S h h1 v C0 hw hS hR hl.1 hd hk hx9 hyl c2 c3 he hx4 hf hlo (by omega) (by omega) (fun H1 locs1 hS1 hR1 => K.2 p e R s m args below meth c H1 locs1 cells slots ls C0 hw hS1 hR1 hl hf hlo hrc hrs)
                                · cases hev
    · cases hev
end ALL
