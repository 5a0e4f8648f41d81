/-! A STEP OF THE PURE MACHINE IS A STEP OF THE MACHINE: by groups of instructions. -/
section SND
variable {p : Program} {l : Launch} {e : Env} {R : Room} {s : State} {m : MethodId} {args : Array Value} {below : List Frame} {meth : Method} {c : Code} {H : Heap} {locs : List Loc} {cells slots : Nat} {Q : State → Prop}
variable {ls : Array Slot} {mid pc x y : Nat} {g : Nat → Nat} {i : Instr} {ws : List Nat} {S S' : List Value}
theorem e_b_inv {f : Int32 → Int32 → Value} (h : e_b f S = some S') : ∃ (y x : Int32) (r : List Value), S = .int y :: .int x :: r ∧ S' = f x y :: r := by
  unfold e_b at h
  split at h
  · cases h; exact ⟨_, _, _, rfl, rfl⟩
  · cases h
theorem e_bz_inv {f : Int32 → Int32 → Value} (h : e_bz f S = some S') : ∃ (y x : Int32) (r : List Value), S = .int y :: .int x :: r ∧ S' = f x y :: r ∧ ¬ y = 0 := by
  unfold e_bz at h
  split at h
  · split at h
    · cases h
    · cases h; exact ⟨_, _, _, rfl, rfl, by assumption⟩
  · cases h
theorem e_u_inv {f : Int32 → Value} (h : e_u f S = some S') : ∃ (x : Int32) (r : List Value), S = .int x :: r ∧ S' = f x :: r := by
  unfold e_u at h
  split at h
  · cases h; exact ⟨_, _, rfl, rfl⟩
  · cases h
theorem e_uj_inv {f : Int64 → Value} (h : e_uj f S = some S') : ∃ (x : Int64) (r : List Value), S = .long x :: r ∧ S' = f x :: r := by
  unfold e_uj at h
  split at h
  · cases h; exact ⟨_, _, rfl, rfl⟩
  · cases h
theorem e_j_inv {f : Int64 → Int64 → Value} (h : e_j f S = some S') : ∃ (y x : Int64) (r : List Value), S = .long y :: .long x :: r ∧ S' = f x y :: r := by
  unfold e_j at h
  split at h
  · cases h; exact ⟨_, _, _, rfl, rfl⟩
  · cases h
theorem e_jz_inv {f : Int64 → Int64 → Value} (h : e_jz f S = some S') : ∃ (y x : Int64) (r : List Value), S = .long y :: .long x :: r ∧ S' = f x y :: r ∧ ¬ y = 0 := by
  unfold e_jz at h
  split at h
  · split at h
    · cases h
    · cases h; exact ⟨_, _, _, rfl, rfl, by assumption⟩
  · cases h
theorem e_js_inv {f : Int64 → Int32 → Value} (h : e_js f S = some S') : ∃ (y : Int32) (x : Int64) (r : List Value), S = .int y :: .long x :: r ∧ S' = f x y :: r := by
  unfold e_js at h
  split at h
  · cases h; exact ⟨_, _, _, rfl, rfl⟩
  · cases h
theorem snd_op (hx : p.tables.exec = Jvm.exec) (hb : c.code = pB mid) (hd : decode (pB mid) pc = .ok (i, e_len i)) (hk : ckX mid pc i x y ws = true) (h : e_op i S = some S')
    (kk : W p l e R s m args below meth c H locs cells slots Q (F0 m (pc + e_len i) ls (S'.map (cv g)))) : W p l e R s m args below meth c H locs cells slots Q (F0 m pc ls (S.map (cv g))) := by
  unfold e_op at h
  split at h
  · cases h; exact lv_iconst hx hb hd rfl kk
  · cases h; exact lv_bipush hx hb hd (by simpa [ckX] using hk) kk
  · cases h; exact lv_sipush hx hb hd (by simpa [ckX] using hk) kk
  · cases h; exact lv_lconst hx hb hd rfl kk
  · cases h; exact lv_null hx hb hd kk
  · obtain ⟨_, _, _, rfl, rfl⟩ := e_b_inv h; exact lv_iadd hx hb hd kk
  · obtain ⟨_, _, _, rfl, rfl⟩ := e_b_inv h; exact lv_isub hx hb hd kk
  · obtain ⟨_, _, _, rfl, rfl⟩ := e_b_inv h; exact lv_imul hx hb hd kk
  · obtain ⟨_, _, _, rfl, rfl⟩ := e_b_inv h; exact lv_iand hx hb hd kk
  · obtain ⟨_, _, _, rfl, rfl⟩ := e_b_inv h; exact lv_ior hx hb hd kk
  · obtain ⟨_, _, _, rfl, rfl⟩ := e_b_inv h; exact lv_ixor hx hb hd kk
  · obtain ⟨_, _, _, rfl, rfl⟩ := e_b_inv h; exact lv_ishl hx hb hd kk
  · obtain ⟨_, _, _, rfl, rfl⟩ := e_b_inv h; exact lv_ishr hx hb hd kk
  · obtain ⟨_, _, _, rfl, rfl⟩ := e_b_inv h; exact lv_iushr hx hb hd rfl kk
  · obtain ⟨_, _, _, rfl, rfl, hne⟩ := e_bz_inv h; exact lv_idiv hx hb hd hne kk
  · obtain ⟨_, _, _, rfl, rfl, hne⟩ := e_bz_inv h; exact lv_irem hx hb hd hne kk
  · obtain ⟨_, _, rfl, rfl⟩ := e_u_inv h; exact lv_i2l hx hb hd rfl kk
  · obtain ⟨_, _, rfl, rfl⟩ := e_u_inv h; exact lv_i2b hx hb hd rfl kk
  · obtain ⟨_, _, rfl, rfl⟩ := e_u_inv h; exact lv_i2c hx hb hd rfl kk
  · obtain ⟨_, _, rfl, rfl⟩ := e_uj_inv h; exact lv_l2i hx hb hd rfl kk
  · obtain ⟨_, _, _, rfl, rfl⟩ := e_j_inv h; exact lv_ladd hx hb hd kk
  · obtain ⟨_, _, _, rfl, rfl⟩ := e_j_inv h; exact lv_lmul hx hb hd kk
  · obtain ⟨_, _, _, rfl, rfl⟩ := e_j_inv h; exact lv_land hx hb hd kk
  · obtain ⟨_, _, _, rfl, rfl⟩ := e_j_inv h; exact lv_lor hx hb hd kk
  · obtain ⟨_, _, _, rfl, rfl, hne⟩ := e_jz_inv h; exact lv_lrem hx hb hd hne kk
  · obtain ⟨_, _, _, rfl, rfl⟩ := e_j_inv h; exact W.lcmp hx hb hd kk
  · obtain ⟨_, _, _, rfl, rfl⟩ := e_js_inv h; exact lv_lshl hx hb hd rfl kk
  · obtain ⟨_, _, _, rfl, rfl⟩ := e_js_inv h; exact lv_lushr hx hb hd rfl kk
  · unfold e_dup at h
    split at h
    · cases h; exact lv_dup hx hb hd rfl kk
    · cases h; exact lv_dup hx hb hd rfl kk
    · cases h
  · unfold e_dup2 at h
    split at h
    · cases h; exact lv_dup2_11 hx hb hd rfl rfl kk
    · cases h; exact lv_dup2_11 hx hb hd rfl rfl kk
    · cases h
  · unfold e_pop at h
    split at h
    · cases h; exact lv_pop (va := .int _) hx hb hd rfl kk
    · cases h; exact lv_pop (va := .ref (g _)) hx hb hd rfl kk
    · cases h
  · cases h
theorem snd_lo (hx : p.tables.exec = Jvm.exec) (hb : c.code = pB mid) (hd : decode (pB mid) pc = .ok (i, e_len i)) {L : aL} {nL : Nat} (hl : lv_has ls nL (L.map (fun q => (q.1, cv g q.2)))) {v : Value} (h : e_lo i L = some v)
    (kk : W p l e R s m args below meth c H locs cells slots Q (F0 m (pc + e_len i) ls ((v :: S).map (cv g)))) : W p l e R s m args below meth c H locs cells slots Q (F0 m pc ls (S.map (cv g))) := by
  unfold e_lo at h
  split at h
  · split at h
    · cases h; exact lv_iload hx hb hd (e_ld_has hl (by assumption)) kk
    · cases h
  · split at h
    · cases h; exact lv_iload_n hx hb hd rfl (e_ld_has hl (by assumption)) kk
    · cases h
  · split at h
    · cases h; exact lv_aload hx hb hd (e_ld_has hl (by assumption)) kk
    · cases h
  · split at h
    · cases h; exact lv_aload_n hx hb hd rfl (e_ld_has hl (by assumption)) kk
    · cases h
  · split at h
    · cases h; exact lv_lload hx hb hd (e_ld_has hl (by assumption)) kk
    · cases h
  · split at h
    · cases h; exact lv_lload_n hx hb hd rfl (e_ld_has hl (by assumption)) kk
    · cases h
  · cases h
theorem snd_sto (hx : p.tables.exec = Jvm.exec) (hb : c.code = pB mid) (hd : decode (pB mid) pc = .ok (i, e_len i)) (hk : ckX mid pc i x y ws = true) {L L' : aL} (hl : lv_has ls (pM mid) (L.map (fun q => (q.1, cv g q.2)))) (h : e_sto i L S = some (L', S'))
    (kk : ∀ ls' : Array Slot, lv_has ls' (pM mid) (L'.map (fun q => (q.1, cv g q.2))) → W p l e R s m args below meth c H locs cells slots Q (F0 m (pc + e_len i) ls' (S'.map (cv g)))) : W p l e R s m args below meth c H locs cells slots Q (F0 m pc ls (S.map (cv g))) := by
  unfold e_sto at h
  split at h
  · have hn := Nat.blt_eq.mp (show Nat.blt _ _ = true from hk)
    split at h
    · rename_i v r
      cases hnl : e_nl L _ with
      | false => rw [hnl] at h; cases h
      | true => rw [hnl] at h; cases h; exact lv_istore hx hb hd hl hn (e_st1_cv hl hnl (.int _)) kk
    · cases h
  · have hn := Nat.blt_eq.mp (show Nat.blt _ _ = true from hk)
    split at h
    · cases hnl : e_nl L _ with
      | false => rw [hnl] at h; cases h
      | true => rw [hnl] at h; cases h; exact lv_istore_n hx hb hd rfl hl hn (e_st1_cv hl hnl (.int _)) kk
    · cases h
  · have hn := Nat.blt_eq.mp (show Nat.blt _ _ = true from hk)
    split at h
    · cases hnl : e_nl L _ with
      | false => rw [hnl] at h; cases h
      | true => rw [hnl] at h; cases h; exact lv_astore hx hb hd hl hn (e_st1_cv hl hnl (.ref _)) kk
    · cases h
  · have hn := Nat.blt_eq.mp (show Nat.blt _ _ = true from hk)
    split at h
    · cases hnl : e_nl L _ with
      | false => rw [hnl] at h; cases h
      | true => rw [hnl] at h; cases h; exact lv_astore_n hx hb hd rfl hl hn (e_st1_cv hl hnl (.ref _)) kk
    · cases h
  · have hn := Nat.blt_eq.mp (show Nat.blt _ _ = true from hk)
    rename_i k n
    split at h
    · rename_i v hv
      cases hnl : e_nl L k with
      | false => rw [hnl] at h; cases h
      | true =>
      rw [hnl] at h
      cases h
      have hv' : ∃ j : Nat, (L.map (fun q => (q.1, cv g q.2)))[j]? = some (k, .int v) := by
        unfold e_ld at hv
        cases hf : L.find? (fun q => q.1 == k) with
        | none => rw [hf] at hv; cases hv
        | some q =>
          rw [hf] at hv
          have h1 : q.2 = .int v := Option.some.inj hv
          have h3 : q.1 = k := by simpa using List.find?_some hf
          obtain ⟨j, hj⟩ := List.getElem?_of_mem (List.mem_of_find?_eq_some hf)
          refine ⟨j, ?_⟩
          rw [List.getElem?_map, hj]
          show some (q.1, cv g q.2) = _
          rw [h1, h3]
          rfl
      obtain ⟨j, hj⟩ := hv'
      exact lv_iinc hx hb hd hl hj rfl hn (e_st1_cv hl hnl (.int _)) kk
    · cases h
  · cases h
theorem snd_br (hx : p.tables.exec = Jvm.exec) (hb : c.code = pB mid) (hd : decode (pB mid) pc = .ok (i, e_len i)) (hk : ckX mid pc i x y ws = true) {b : Bool} (h : e_br i S = some (b, S'))
    (kk : W p l e R s m args below meth c H locs cells slots Q (F0 m (bif b then x else pc + e_len i) ls (S'.map (cv g)))) : W p l e R s m args below meth c H locs cells slots Q (F0 m pc ls (S.map (cv g))) := by
  unfold e_br at h
  split at h
  · rename_i cnd off
    have ht : (pc : Int) + off = (x : Int) := by simpa [ckX] using hk
    split at h
    · cases h
      cases cnd
      · exact lv_if_eq hx hb hd ht (fun hP => by simpa [e_cmp, hP, e_len] using kk) (fun hP => by simpa [e_cmp, hP, e_len] using kk)
      · exact lv_if_ne hx hb hd ht (fun hP => by simpa [e_cmp, hP, e_len] using kk) (fun hP => by simpa [e_cmp, hP, e_len] using kk)
      · exact lv_if_lt hx hb hd ht (fun hP => by simpa [e_cmp, hP, e_len] using kk) (fun hP => by simpa [e_cmp, hP, e_len] using kk)
      · exact lv_if_ge hx hb hd ht (fun hP => by simpa [e_cmp, hP, e_len] using kk) (fun hP => by simpa [e_cmp, hP, e_len] using kk)
      · exact lv_if_gt hx hb hd ht (fun hP => by simpa [e_cmp, hP, e_len] using kk) (fun hP => by simpa [e_cmp, hP, e_len] using kk)
      · exact lv_if_le hx hb hd ht (fun hP => by simpa [e_cmp, hP, e_len] using kk) (fun hP => by simpa [e_cmp, hP, e_len] using kk)
    · cases h
  · rename_i cnd off
    have ht : (pc : Int) + off = (x : Int) := by simpa [ckX] using hk
    split at h
    · cases h
      cases cnd
      · exact lv_icmp_eq hx hb hd ht (fun hP => by simpa [e_cmp, hP, e_len] using kk) (fun hP => by simpa [e_cmp, hP, e_len] using kk)
      · exact lv_icmp_ne hx hb hd ht (fun hP => by simpa [e_cmp, hP, e_len] using kk) (fun hP => by simpa [e_cmp, hP, e_len] using kk)
      · exact lv_icmp_lt hx hb hd ht (fun hP => by simpa [e_cmp, hP, e_len] using kk) (fun hP => by simpa [e_cmp, hP, e_len] using kk)
      · exact lv_icmp_ge hx hb hd ht (fun hP => by simpa [e_cmp, hP, e_len] using kk) (fun hP => by simpa [e_cmp, hP, e_len] using kk)
      · exact lv_icmp_gt hx hb hd ht (fun hP => by simpa [e_cmp, hP, e_len] using kk) (fun hP => by simpa [e_cmp, hP, e_len] using kk)
      · exact lv_icmp_le hx hb hd ht (fun hP => by simpa [e_cmp, hP, e_len] using kk) (fun hP => by simpa [e_cmp, hP, e_len] using kk)
    · cases h
  · rename_i off
    have ht : (pc : Int) + off = (x : Int) := by simpa [ckX] using hk
    split at h
    · cases h; exact lv_ifnullN hx hb hd ht kk
    · cases h; exact lv_ifnull hx hb hd kk
    · cases h
  · rename_i off
    have ht : (pc : Int) + off = (x : Int) := by simpa [ckX] using hk
    split at h
    · cases h; exact lv_ifnonnullN hx hb hd kk
    · cases h; exact lv_ifnonnull hx hb hd ht kk
    · cases h
  · rename_i off
    have ht : (pc : Int) + off = (x : Int) := by simpa [ckX] using hk
    cases h; exact lv_goto hx hb hd ht kk
  · cases h
theorem e_tg_eq {pc t : Nat} {off : Int} (h : e_tg pc off = some t) : (pc : Int) + off = (t : Int) := by
  unfold e_tg at h
  split at h
  · cases h; omega
  · cases h
theorem snd_sw (hx : p.tables.exec = Jvm.exec) (hb : c.code = pB mid) {len : Nat} (hd : decode (pB mid) pc = .ok (i, len)) (hk : ckX mid pc i x y ws = true) {t : Nat} (h : e_sw pc i S = some (t, S'))
    (kk : W p l e R s m args below meth c H locs cells slots Q (F0 m t ls (S'.map (cv g)))) : W p l e R s m args below meth c H locs cells slots Q (F0 m pc ls (S.map (cv g))) := by
  unfold e_sw at h
  split at h
  · split at h
    · split at h
      · rename_i hout
        obtain ⟨t', ht, he⟩ := Option.map_eq_some_iff.mp h
        cases he
        exact lv_tableOut hx hb hd hout (e_tg_eq ht) kk
      · rename_i hin
        split at h
        · rename_i off ho
          obtain ⟨t', ht, he⟩ := Option.map_eq_some_iff.mp h
          cases he
          exact lv_tableIn hx hb hd (fun q => hin (Or.inl q)) (fun q => hin (Or.inr q)) ho (e_tg_eq ht) kk
        · cases h
    · cases h
  · split at h
    · obtain ⟨t', ht, he⟩ := Option.map_eq_some_iff.mp h
      cases he
      exact lv_lookup hx hb hd hk rfl (e_tg_eq ht) kk
    · cases h
  · cases h
end SND
