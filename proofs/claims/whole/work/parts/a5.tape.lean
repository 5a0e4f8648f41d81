/-! THE TAPE: what is fed -/
def byt (v : Int32) (k : Nat) : Nat := v.toBitVec.toNat / 2 ^ (8 * k) % 256
theorem byt_lt (v : Int32) (k : Nat) : byt v k < 256 := Nat.mod_lt _ (by decide)
theorem and255 (x : BitVec 32) : (x &&& 255#32) = BitVec.ofNat 32 (x.toNat % 256) := by
  apply BitVec.eq_of_toNat_eq
  rw [BitVec.toNat_and, BitVec.toNat_ofNat, BitVec.toNat_ofNat]
  have : (255 % 2^32) = 2^8 - 1 := by decide
  rw [this, Nat.and_two_pow_sub_one_eq_mod]
  have := Nat.mod_lt x.toNat (show 0 < 256 by decide)
  rw [Nat.mod_eq_of_lt (show x.toNat % 256 < 2 ^ 32 by omega)]
theorem byt_r (v : Int32) {k : Nat} (hk : k < 4) : (v >>> (nI (8 * k) &&& 31)) &&& 255 = nI (byt v k) := by
  apply Int32.toBitVec_inj.mp
  rw [Int32.toBitVec_and]
  show (v >>> (nI (8 * k) &&& 31)).toBitVec &&& 255#32 = BitVec.ofNat 32 (byt v k)
  have e : (v >>> (nI (8 * k) &&& 31)).toBitVec = v.toBitVec.sshiftRight (8 * k) := by
    rcases (show k = 0 ∨ k = 1 ∨ k = 2 ∨ k = 3 by omega) with rfl | rfl | rfl | rfl <;> rfl
  rw [e]
  apply BitVec.eq_of_getLsbD_eq
  intro i hi
  have h255 : (255#32).getLsbD i = decide (i < 8) := by
    rw [BitVec.getLsbD_ofNat, show (255 : Nat) = 2 ^ 8 - 1 by decide, Nat.testBit_two_pow_sub_one]
    simp [hi]
  rw [BitVec.getLsbD_and, BitVec.getLsbD_sshiftRight, h255, BitVec.getLsbD_ofNat]
  unfold byt
  rw [show (256 : Nat) = 2 ^ 8 by decide, Nat.testBit_mod_two_pow, Nat.testBit_div_two_pow]
  by_cases q : i < 8
  · have h1 : 8 * k + i < 32 := by omega
    have h2 : ¬ 32 ≤ i := by omega
    rw [if_pos h1, decide_eq_true q, decide_eq_true hi, decide_eq_false h2, Nat.add_comm i]
    simp [BitVec.getLsbD]
  · simp [q]
theorem byt_c (v : Int32) {k : Nat} (hk : k < 4) : (v.toUInt32 >>> ((nI (8 * k)).toUInt32 &&& Int32.toUInt32 31)).toInt32 &&& 255 = nI (byt v k) := by
  apply Int32.toBitVec_inj.mp
  rw [Int32.toBitVec_and]
  show (v.toUInt32 >>> ((nI (8 * k)).toUInt32 &&& Int32.toUInt32 31)).toInt32.toBitVec &&& 255#32 = BitVec.ofNat 32 (byt v k)
  have e : (v.toUInt32 >>> ((nI (8 * k)).toUInt32 &&& Int32.toUInt32 31)).toInt32.toBitVec = v.toBitVec >>> (8 * k) := by
    rcases (show k = 0 ∨ k = 1 ∨ k = 2 ∨ k = 3 by omega) with rfl | rfl | rfl | rfl <;> rfl
  rw [e, and255]
  unfold byt
  rw [BitVec.toNat_ushiftRight, Nat.shiftRight_eq_div_pow]

theorem nar_i : ∀ c, c < 256 → vp_nar .byte ((nI c).toInt8.toInt32) = vp_nar .byte (nI c) := by decide +kernel
theorem nar_a : ∀ c, c < 256 → vp_nar .byte (nI c) &&& 255 = nI c := by decide +kernel
def bl (v : Int32) : Nat → List Nat
  | 0 => []
  | k + 1 => if byt v k = 0 then bl v k else byt v k :: bl v k
theorem bl_le (v : Int32) : ∀ k, (bl v k).length ≤ k
  | 0 => Nat.le_refl _
  | k + 1 => by
    have := bl_le v k
    show (if byt v k = 0 then bl v k else byt v k :: bl v k).length ≤ k + 1
    split
    · omega
    · rw [List.length_cons]; omega
theorem bl_ok (v : Int32) : ∀ k c, c ∈ bl v k → 0 < c ∧ c < 256
  | 0, c, h => by cases h
  | k + 1, c, h => by
    have h : c ∈ (if byt v k = 0 then bl v k else byt v k :: bl v k) := h
    split at h
    · exact bl_ok v k c h
    · rcases List.mem_cons.mp h with e | e
      · rw [e]
        exact ⟨by omega, byt_lt v k⟩
      · exact bl_ok v k c e
def cu (v : Int32) : Nat → Nat → Nat
  | 0, _ => 0
  | j + 1, k => (if byt v k = 0 then 0 else 1) + cu v j (k + 1)
theorem cu_bl (v : Int32) : cu v 4 0 = (bl v 4).length := by
  show (if byt v 0 = 0 then 0 else 1) + ((if byt v 1 = 0 then 0 else 1) + ((if byt v 2 = 0 then 0 else 1) + ((if byt v 3 = 0 then 0 else 1) + 0))) = _
  have e : ∀ k, (bl v (k + 1)).length = (bl v k).length + (if byt v k = 0 then 0 else 1) := fun k => by
    show (if byt v k = 0 then bl v k else byt v k :: bl v k).length = _
    split
    · rfl
    · rfl
  rw [e 3, e 2, e 1, e 0]
  show _ = 0 + _ + _ + _ + _
  omega
def shI (k : Nat) : Int32 := nI (8 * k) - 8
theorem shI_s (k : Nat) : shI (k + 1) = nI (8 * k) := by
  unfold shI
  rw [show (8 : Int32) = nI 8 from rfl, nI_sub (by omega)]
  congr 1
theorem shI_p (k : Nat) : nI (8 * k) + -8 = shI k := by
  unfold shI
  rw [Int32.sub_eq_add_neg]
def apC : aM → Nat → List Nat → aM
  | M, _, [] => M
  | M, n, c :: l => apC (mI (mA M 34 n (nI c)) 33 4 (nI (n + 1))) (n + 1) l
def apR : aM → Nat → List Nat → aM
  | W, _, [] => W
  | W, n, c :: l => apR (mI (mA W 1 n (vp_nar .byte (nI c))) 0 2 (nI (n + 1))) (n + 1) l
theorem apC_sz : ∀ (l : List Nat) (M : aM) (n : Nat), M.1 33 4 = nI n → (apC M n l).1 33 4 = nI (n + l.length)
  | [], _, _, h => h
  | c :: l, M, n, _ => by
    show (apC _ (n + 1) l).1 33 4 = _
    rw [apC_sz l _ (n + 1) (by rw [mI_At, if_pos rfl]), List.length_cons]
    congr 1
    omega
theorem apR_sz : ∀ (l : List Nat) (W : aM) (n : Nat), W.1 0 2 = nI n → (apR W n l).1 0 2 = nI (n + l.length)
  | [], _, _, h => h
  | c :: l, W, n, _ => by
    show (apR _ (n + 1) l).1 0 2 = _
    rw [apR_sz l _ (n + 1) (by rw [mI_At, if_pos rfl]), List.length_cons]
    congr 1
    omega
theorem apC_app : ∀ (l r : List Nat) (M : aM) (n : Nat), apC (apC M n l) (n + l.length) r = apC M n (l ++ r)
  | [], _, _, _ => rfl
  | c :: l, r, M, n => by
    show apC (apC _ (n + 1) l) (n + (l.length + 1)) r = apC _ (n + 1) (l ++ r)
    rw [← apC_app l r, show n + 1 + l.length = n + (l.length + 1) by omega]
theorem apR_app : ∀ (l r : List Nat) (W : aM) (n : Nat), apR (apR W n l) (n + l.length) r = apR W n (l ++ r)
  | [], _, _, _ => rfl
  | c :: l, r, W, n => by
    show apR (apR _ (n + 1) l) (n + (l.length + 1)) r = apR _ (n + 1) (l ++ r)
    rw [← apR_app l r, show n + 1 + l.length = n + (l.length + 1) by omega]
/-- how both tapes are alike, k signs -/
def Tpk (M W : aM) (k : Nat) : Prop := k ≤ 240 ∧ M.1 33 4 = nI k ∧ W.1 0 2 = nI k ∧ ∀ i, i < k → ∃ c, 0 < c ∧ c < 256 ∧ M.2.1 34 i = nI c ∧ W.2.1 1 i = vp_nar .byte (nI c)
theorem Tpk_ap : ∀ (l : List Nat) (M W : aM) (n : Nat), Tpk M W n → (∀ c, c ∈ l → 0 < c ∧ c < 256) → n + l.length ≤ 240 → Tpk (apC M n l) (apR W n l) (n + l.length)
  | [], _, _, _, h, _, _ => h
  | c :: l, M, W, n, h, hc, hl => by
    rw [List.length_cons] at hl ⊢
    obtain ⟨h1, h2, h3, h4⟩ := h
    have ih := Tpk_ap l (mI (mA M 34 n (nI c)) 33 4 (nI (n + 1))) (mI (mA W 1 n (vp_nar .byte (nI c))) 0 2 (nI (n + 1))) (n + 1) ⟨by omega, by rw [mI_At, if_pos rfl], by rw [mI_At, if_pos rfl], fun i hi => by
      rw [mI_A, mI_A, mA_At, mA_At]
      by_cases q : i = n
      · rw [if_pos q, if_pos q]
        exact ⟨c, (hc c (List.mem_cons_self ..)).1, (hc c (List.mem_cons_self ..)).2, rfl, rfl⟩
      · rw [if_neg q, if_neg q]
        exact h4 i (by omega)⟩ (fun x hx => hc x (List.mem_cons_of_mem _ hx)) (by omega)
    rw [show n + (l.length + 1) = n + 1 + l.length by omega]
    exact ih
/-- what the tape's calls may change -/
def FrT (M M' : aM) : Prop := (∀ x, 38 ≤ x → M'.1 x = M.1 x ∧ M'.2.1 x = M.2.1 x) ∧ M'.1 32 = M.1 32
theorem FrT.rf (M : aM) : FrT M M := ⟨fun _ _ => ⟨rfl, rfl⟩, rfl⟩
theorem FrT.tr {A B C : aM} (h1 : FrT A B) (h2 : FrT B C) : FrT A C := ⟨fun x q => ⟨((h2.1 x q).1).trans (h1.1 x q).1, ((h2.1 x q).2).trans (h1.1 x q).2⟩, h2.2.trans h1.2⟩
theorem FrT.sm {M M' : aM} (h : FrT M M') {b n : Nat} (hb : 38 ≤ b) : Sm M M' b n := fun x p _ => h.1 x (by omega)
theorem FrT_ap : ∀ (l : List Nat) (M : aM) (n : Nat), FrT M (apC M n l)
  | [], M, _ => FrT.rf M
  | c :: l, M, n => by
    have h : FrT M (mI (mA M 34 n (nI c)) 33 4 (nI (n + 1))) := ⟨fun x q => ⟨mI_o (by omega), by rw [mI_A, mA_o (by omega)]⟩, mI_o (by decide)⟩
    exact h.tr (FrT_ap l _ (n + 1))
def FrZ (W W' : aM) : Prop := (∀ j, (j = 12 ∨ j = 13 ∨ j = 18 ∨ j = 19 ∨ j = 20) → W'.1 0 j = W.1 0 j) ∧ (∀ k, (k = 3 ∨ k = 5 ∨ k = 8 ∨ k = 10 ∨ k = 11) → W'.2.1 k = W.2.1 k) ∧ (∀ j, j < 320 → W'.2.1 6 j = W.2.1 6 j) ∧ (∀ j, j < 4 → W'.2.1 7 j = W.2.1 7 j)
theorem FrZ.rf (W : aM) : FrZ W W := ⟨fun _ _ => rfl, fun _ _ => rfl, fun _ _ => rfl, fun _ _ => rfl⟩
theorem FrZ.tr {A B C : aM} (h1 : FrZ A B) (h2 : FrZ B C) : FrZ A C := ⟨fun j q => (h2.1 j q).trans (h1.1 j q), fun j q => (h2.2.1 j q).trans (h1.2.1 j q), fun j q => (h2.2.2.1 j q).trans (h1.2.2.1 j q), fun j q => (h2.2.2.2 j q).trans (h1.2.2.2 j q)⟩
theorem FrZ_I (W : aM) {j : Nat} {v : Int32} (h : ¬ (j = 12 ∨ j = 13 ∨ j = 18 ∨ j = 19 ∨ j = 20)) : FrZ W (mI W 0 j v) := ⟨fun i q => by rw [mI_At, if_neg (fun (e : i = j) => h (e ▸ q))], fun _ _ => rfl, fun _ _ => rfl, fun _ _ => rfl⟩
theorem FrZ_ap : ∀ (l : List Nat) (W : aM) (n : Nat), FrZ W (apR W n l)
  | [], W, _ => FrZ.rf W
  | c :: l, W, n => by
    have h1 : FrZ W (mA W 1 n (vp_nar .byte (nI c))) := ⟨fun _ _ => rfl, fun k q => mA_o (by omega), fun _ _ => by rw [mA_o (by decide)], fun _ _ => by rw [mA_o (by decide)]⟩
    have h2 : FrZ (mA W 1 n (vp_nar .byte (nI c))) (mI (mA W 1 n (vp_nar .byte (nI c))) 0 2 (nI (n + 1))) := FrZ_I _ (by omega)
    exact (h1.tr h2).tr (FrZ_ap l _ (n + 1))
section
variable {sh : List sE} {M M' W W' : aM} {F : Nat → Option Nat} {kk n dl bal lv t B B' c st st2 : Nat} {wl : Nat → List Sg} {al l : List (Nat → Int32)} {Ln : Nat → List (Option Se)}
theorem IP.tp (h : IP sh M W B) (q : FrT M M') (p : FrZ W W') (ht : TpR M' W') (hB : B ≤ B') : IP sh M' W' B' := by
  obtain ⟨F, kk, h1, h2, h3, h4, h5, h6⟩ := h
  obtain ⟨p1, p2, p3, p4⟩ := p
  have td : ∀ b, 38 ≤ b → TdC (lc M b) → TdC (lc M' b) := fun b hb z => (q.sm (n := 31) hb).td z
  have e8 : M'.1 32 8 = M.1 32 8 := by rw [q.2]
  refine ⟨F, kk, ⟨h1.1, h1.2.mono hB⟩, ht, h3.of (by rw [(q.1 38 (by decide)).1]) (q.1 39 (by decide)).2 (q.1 40 (by decide)).2 (p1 13 (by omega)) p3 p4, by rw [(q.1 110 (by decide)).2, p2 5 (by omega)]; exact h4, td 75 (by decide) h5, ?_⟩
  rcases h6 with h6 | ⟨n, dl, bal, lv, t, c, st, st2, wl, al, l, Ln, g1, g2, g3⟩
  · left
    obtain ⟨a0, a1, a2, a3, a4, a5, a6, a7, a8, a9, a10, a11, a12, a13, a14, a15⟩ := h6
    refine ⟨a0, by rw [(q.1 41 (by decide)).1]; exact a1, (p1 12 (by omega)).trans a2, td 41 (by decide) a3, by rw [(q.1 67 (by decide)).1]; exact a4, by rw [(q.1 69 (by decide)).1]; exact a5, by rw [(q.1 72 (by decide)).1]; exact a6, ?_, (p1 19 (by omega)).trans a8, e8.trans a9, (p1 20 (by omega)).trans a10, by rw [p2 8 (by omega)]; exact a11, by rw [p2 8 (by omega)]; exact a12, by rw [(q.1 43 (by decide)).2]; exact a13, a14, by rw [(q.1 72 (by decide)).1]; exact a15⟩
    rw [p1 18 (by omega)]
    exact a7
  · right
    have hG := g1.2.2.2.1
    refine ⟨n, dl, bal, lv, t, c, st, st2, wl, al, l, Ln, ?_, by rw [p2 3 (by omega)]; exact g2, g3.of e8 (p1 20 (by omega)) (p2 10 (by omega)) (fun b e => q.sm (by have := g3.ge b e; omega)) hB⟩
    rw [p2 8 (by omega)]
    exact g1.of (q.sm (by decide)) (q.1 72 (by decide)).1 (fun i b hi hb => q.sm (by have := (hG.1 i b hi hb).1; omega)) (p1 12 (by omega)) (p1 18 (by omega)) (p1 19 (by omega)) (p2 3 (by omega)) (p2 11 (by omega)) hB
end
