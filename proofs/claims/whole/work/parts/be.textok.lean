/-! WHAT THE TEXTS ANSWER, as the pure machine says -/
abbrev nse : String := "java/util/NoSuchElementException"
def NWd (s : State) : Prop := va_Nw (.castable nse nse) s ∧ va_Nw (.declares (Bundle.init0 "java/lang/RuntimeException")) s ∧ va_Nw (.declares (Bundle.init0 "java/lang/Exception")) s ∧ va_Nw (.declares (Bundle.init0 Bundle.tN)) s
def TxW (z0 : Nat) (g av : Nat → Nat) (s : State) : Prop := (∀ (k : Nat) (t : List Int32), e_txt k = some t → TxS z0 (g k) (av k) t s s.heap) ∧ TxC z0 s s.heap ∧ vx_Zq Bundle.tN "UNASSIGNED_STACK" Bundle.steD (fun q => z0 ≤ q) s s.heap ∧ vx_Zq Bundle.tN "SUPPRESSED_SENTINEL" Bundle.listD (fun q => z0 ≤ q) s s.heap ∧ NWd s
theorem tx_ok {z0 : Nat} {g av : Nat → Nat} : TxOk z0 (TxW z0 g av) := fun s U hW hs ho h =>
  ⟨fun k t e => (h.1 k t e).mv hW.alike ho, h.2.1.mv hW.alike ho, (vx_Zq.moved hW.alike h.2.2.1).kept ho, (vx_Zq.moved hW.alike h.2.2.2.1).kept ho, va_Nw.warmC hW h.2.2.2.2.1, va_Nw.warmD hW h.2.2.2.2.2.1, va_Nw.warmD hW h.2.2.2.2.2.2.1, va_Nw.warmD hW h.2.2.2.2.2.2.2⟩
theorem txt_lo : (List.range 22).all (fun k => match e_txt k with
    | some t => e_tok t
    | none => true) = true := by decide +kernel
theorem txt_hi {k : Nat} (h : 22 ≤ k) : e_txt k = none := by
  unfold e_txt
  cases hb : Nat.blt k 16 with
  | true => rfl
  | false =>
    have : pSt[k - 16]? = none := List.getElem?_eq_none (by show 6 ≤ k - 16; omega)
    rw [this]
    rfl
theorem txt_tok {k : Nat} {t : List Int32} (h : e_txt k = some t) : e_tok t = true := by
  by_cases hk : k < 22
  · have := List.all_eq_true.mp txt_lo k (List.mem_range.mpr hk)
    rw [h] at this
    exact this
  · rw [txt_hi (by omega)] at h
    cases h
set_option maxRecDepth 100000 in
theorem tg_l4 {own : String} {ix : Nat} (h : Cond.methodLink own ix (iY 1004) ∈ gt) : Cond.methodLink own ix tn_len ∈ gt := h
theorem tg_l5 {own : String} {ix : Nat} (h : Cond.methodLink own ix (iY 1005) ∈ gt) : Cond.methodLink own ix tn_chr ∈ gt := h
theorem tg_l6 {own : String} {ix : Nat} (h : Cond.methodLink own ix (iY 1006) ∈ gt) : Cond.methodLink own ix tn_ixa ∈ gt := h
theorem text_ok {l : Launch} {z0 : Nat} {g av : Nat → Nat} {D : va_G} {dT : Nat → ClassId} {sc : aS} : TextOk l (TxW z0 g av) z0 g D dT sc := by
  intro p e R s m args below meth c H locs cells slots Q ls mid pc x y d i ws S h h' v hx4 C0 hw hS hR hls hd hk hyl hcat hrcv he h8 hf hlo hrc hrs kk
  have hrest : (((S.drop y).map (cv g)).map fun v => v.category).sum ≤ 8 := by
    rw [List.map_map, show ((fun v => Value.category v) ∘ cv g) = (fun v => v.category) from funext (cv_cat g)]
    simpa [e_cat] using hcat
  obtain ⟨hx, hb, hr, hlocks, hml, hown, hts, hin0⟩ := C0
  obtain ⟨hK, hz0, hAO, hRO, hSt, hTxt, hTX⟩ := hw
  have hTU : ∀ (k : Nat) (t : List Int32), e_txt k = some t → ∀ U : State, U.heap = H → s.WarmedH U.vm → TS z0 (g k) (av k) t U := by
    intro k t ht U hU hW
    have hk9 : ∀ q : Nat, q < s.heap.size → ¬ z0 ≤ q → U.heap[q]? = s.heap[q]? := fun q q1 q2 => by rw [hU]; exact hS.2.1 q q1 q2
    exact ⟨(hTX.1 k t ht).mv hW.alike hk9, hTX.2.1.mv hW.alike hk9, txt_tok ht⟩
  have hrcO : ∀ (k : Nat) (t : List Int32), e_txt k = some t → ∃ cell : Cell, H[g k]? = some cell ∧ cell.vm.isStatics = false ∧ s.vm.findClass "java/lang/String" = some cell.cls := fun k t ht => va_Orecv (hTX.1 k t ht).1 hS
  have hx9 : Nat.blt x 1000 = false := by rcases hx4 with rfl | rfl | rfl <;> rfl
  unfold e_rcv at hrcv
  split at hrcv
  · rename_i ix
    have hx7 : x ≠ 1007 := by omega
    have := (ck_int_st hk hx9 hx7).2
    omega
  · rename_i ix
    have := (ck_int_sp hk hx9).2
    omega
  · rename_i ix
    have hl := (ck_int_vi hk hx9).1
    rcases hx4 with rfl | rfl | rfl
    · simp only [e_int] at he
      split at he <;> first | (simp at *; done) | skip
      rename_i k _ hav
      obtain ⟨t, ht, he⟩ := Option.map_eq_some_iff.mp he
      cases he
      have kk1 := kk H locs hS hR
      rw [take_rev hav]
      exact t_callV (vs := []) (b := g k) (rest := (S.drop y).map (cv g)) hx hb hml hown hts (hTU k t ht) (hrcO k t ht) (c_len (d := 7)) tg_len_c (tg_l4 hl) tg_len_i tg_len_s tg_iS tg_len_d rfl hls hrest (by omega) (by omega) (by decide) hrc hrs hd kk1
    · simp only [e_int] at he
      split at he <;> first | (simp at *; done) | skip
      rename_i k j _ hav
      split at he
      · rename_i t ht
        split at he
        · rename_i hj
          cases he
          have kk1 := kk H locs hS hR
          rw [take_rev hav]
          obtain ⟨j1, hj1, rfl⟩ := nI_of (x := j) (fun q => hj (Or.inl q))
          rw [nI_clamp hj1] at hj kk1
          have hj2 : j1 < t.length := by
            rcases Nat.lt_or_ge j1 t.length with q | q
            · exact q
            · exact absurd (Or.inr q) hj
          exact t_callV (vs := [.int (nI j1)]) (b := g k) (rest := (S.drop y).map (cv g)) hx hb hml hown hts (hTU k t ht) (hrcO k t ht) (c_chr (d := 5) hj2) tg_chr_c (tg_l5 hl) tg_chr_i tg_chr_s tg_iS tg_chr_d rfl hls hrest (by omega) (by omega) (by decide) hrc hrs hd kk1
        · cases he
      · cases he
    · simp only [e_int] at he
      split at he <;> first | (simp at *; done) | skip
      rename_i k v1 _ hav
      split at he
      · rename_i t ht
        split at he
        · rename_i hv
          have e9 := e_fx_eq v1 t 0
          simp only [Nat.zero_add] at e9
          have he2 : (some (some (Value.int (e_fx v1 t 0)), h) : Option (Option Value × aH)) = some (v, h') := by rw [← e9]; exact he
          cases he2
          have kk1 := kk H locs hS hR
          rw [take_rev hav]
          exact t_callV (vs := [.int v1]) (b := g k) (rest := (S.drop y).map (cv g)) hx hb hml hown hts (hTU k t ht) (hrcO k t ht) (c_ixa (d := 5) hv.1 hv.2) tg_ixa_c (tg_l6 hl) tg_ixa_i tg_ixa_s tg_iS tg_ixa_d rfl hls hrest (by omega) (by omega) (by decide) hrc hrs hd kk1
        · cases he
      · cases he
  · cases hrcv
