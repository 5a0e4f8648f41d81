/-! THE WHOLE STATE between two calls: the class's memory M, the reference's own memory W -/
def ShOk (sh : List sE) (F : Nat → Option Nat) (kk : Nat) : Prop :=
  BusSh sh 32 33 38 41 72 74 109 110 kk ∧ RowSh sh 41 ∧ PastSh sh 72 F ∧ RowSh sh 75 ∧ ModSh sh 111 ∧ 127 ≤ 32 + sh.length ∧
  shp sh 33 = some (.inl (9, [37, 38, 39, 40, 0, 0, 0, 0])) ∧ shp sh 34 = some (.inr (.inl (0, 240))) ∧ shp sh 35 = some (.inr (.inl (0, 5))) ∧ shp sh 36 = some (.inr (.inl (0, 32))) ∧ shp sh 37 = some (.inr (.inl (0, 80))) ∧
  shp sh 38 = some (.inl (6, [42, 43, 0])) ∧ shp sh 39 = some (.inr (.inl (0, 320))) ∧ shp sh 40 = some (.inr (.inl (0, 4))) ∧
  shp sh 74 = some (.inl (3, [78, 109, 110, 111])) ∧ shp sh 106 = some (.inr (.inl (0, 6))) ∧ shp sh 107 = some (.inr (.inl (0, 6))) ∧ shp sh 108 = some (.inr (.inl (0, 40))) ∧
  shp sh 109 = some (.inl (0, [1, 0, 0, 0, 0, 0])) ∧ ∃ g, shp sh 126 = some (.inr (.inr (.inl (2, 1, .inr (.inl g)))))
/-- the tape, both alike -/
def TpR (M W : aM) : Prop := ∃ k, k ≤ 240 ∧ M.1 33 4 = nI k ∧ W.1 0 2 = nI k ∧ ∀ i, i < k → ∃ c, 0 < c ∧ c < 256 ∧ M.2.1 34 i = nI c ∧ W.2.1 1 i = vp_nar .byte (nI c)
/-- the scripts, both alike -/
def ScR (M W : aM) : Prop := ∃ m, m ≤ 4 ∧ M.1 38 2 = nI m ∧ W.1 0 13 = nI m ∧ ∀ i, i < m → ∃ q, 1 ≤ q ∧ q ≤ 16 ∧ M.2.1 40 i = nI q ∧ W.2.1 7 i = nI q ∧ (∀ j, j < 5 * q → M.2.1 39 (80 * i + j) = W.2.1 6 (80 * i + j)) ∧ ∀ j, j < q → ∃ k, k ≤ 6 ∧ M.2.1 39 (80 * i + 5 * j) = nI k
/-- the image, both alike -/
def ImR (sh : List sE) (M W : aM) (F : Nat → Option Nat) (kk n dl bal lv B : Nat) : Prop :=
  M.1 32 8 = W.1 0 20 ∧ (W.1 0 20 = 0 ∨ W.1 0 20 = 1) ∧ (kk = 2 ∨ ∃ b, kk = b + 3 ∧ 127 ≤ b ∧ RowSh sh b ∧ TdC (lc M b) ∧ ∀ i b', i < 40 → F i = some b' → b + 31 ≤ b' ∨ b' + 31 ≤ b) ∧
  (W.1 0 20 = 1 → ∃ b t wl al l Ln, kk = b + 3 ∧ t ≤ 9999 ∧ RI (lc M b) (W.2.1 10) n dl bal lv t B wl al (W.2.1 10, l, W.2.1 10) Ln)
/-- no row stands -/
def Nil (M W : aM) (F : Nat → Option Nat) (kk : Nat) : Prop :=
  kk = 2 ∧ M.1 41 0 = 0 ∧ W.1 0 12 = 0 ∧ TdC (lc M 41) ∧ M.1 67 3 = 0 ∧ M.1 69 3 = 0 ∧ M.1 72 1 = 0 ∧ (∃ st2, st2 < 40 ∧ W.1 0 18 = nI st2) ∧ W.1 0 19 = 0 ∧ M.1 32 8 = 0 ∧ W.1 0 20 = 0 ∧ W.2.1 8 1741 = 0 ∧ W.2.1 8 1580 = 0 ∧ (∀ b, b < 2 → M.2.1 43 b = 0) ∧ (∀ i, i < 40 → F i = none) ∧ M.1 72 2 = 0
/-- a row stands -/
def Rw (sh : List sE) (M W : aM) (F : Nat → Option Nat) (kk B n dl bal lv t c st st2 : Nat) (wl : Nat → List Sg) (al l : List (Nat → Int32)) (Ln : Nat → List (Option Se)) : Prop :=
  Bg sh M W (W.2.1 8) 32 33 38 41 72 74 109 110 kk 127 F n dl bal lv t B c st st2 wl al l Ln ∧ W.2.1 3 0 = nI n ∧ ImR sh M W F kk n dl bal lv B
/-- how much lies in the heap: rows are kept in 40 places and one; a cell more for a call that throws -/
def cnF (F : Nat → Option Nat) : Nat → Nat
  | 0 => 0
  | k + 1 => cnF F k + (if F k = none then 0 else 1)
def kN (kk : Nat) : Nat := if kk = 2 then 0 else 1
def Sz (sh : List sE) (F : Nat → Option Nat) (kk B : Nat) : Prop := sh.length ≤ 95 + 31 * (cnF F 40 + kN kk) + B / 1000000 ∧ hzS sh ≤ 120000 + 2215 * (cnF F 40 + kN kk) + 6 * (B / 1000000)
theorem cnF_le (F : Nat → Option Nat) : ∀ k, cnF F k ≤ k
  | 0 => Nat.le_refl _
  | k + 1 => by
    have := cnF_le F k
    show cnF F k + (if F k = none then 0 else 1) ≤ k + 1
    split <;> omega
theorem cnF_up {F : Nat → Option Nat} {i b : Nat} (hF : F i = none) : ∀ k, cnF (va_up F i (some b)) k = cnF F k + (if i < k then 1 else 0)
  | 0 => rfl
  | k + 1 => by
    have ih := cnF_up (b := b) hF k
    show cnF (va_up F i (some b)) k + (if va_up F i (some b) k = none then 0 else 1) = cnF F k + (if F k = none then 0 else 1) + _
    by_cases q : k = i
    · subst q
      have e : va_up F k (some b) k = some b := by simp [va_up]
      have a1 : (if k < k then 1 else 0) = 0 := if_neg (by omega)
      have a2 : (if k < k + 1 then 1 else 0) = 1 := if_pos (by omega)
      rw [ih, e, hF, a1, a2]
      simp
    · have e : va_up F i (some b) k = F k := by simp [va_up, q]
      have a1 : (if i < k + 1 then 1 else 0) = (if i < k then 1 else 0) := by
        by_cases z : i < k
        · rw [if_pos z, if_pos (by omega)]
        · rw [if_neg z, if_neg (by omega)]
      rw [ih, e, a1]
      omega
theorem Sz.mono {sh : List sE} {F : Nat → Option Nat} {kk B B' : Nat} (h : Sz sh F kk B) (hB : B ≤ B') : Sz sh F kk B' := by
  have := Nat.div_le_div_right (c := 1000000) hB
  obtain ⟨h1, h2⟩ := h
  exact ⟨by omega, by omega⟩
theorem Sz.gr {sh sh' : List sE} {F F' : Nat → Option Nat} {kk B : Nat} (h : Sz sh F kk B) (g : GrK sh F sh' F') : Sz sh' F' kk B := by
  rcases g with ⟨rfl, rfl⟩ | ⟨g1, g2, i, b, g3, g4, rfl⟩
  · exact h
  · have e := cnF_up (b := b) g4 40
    rw [if_pos g3] at e
    obtain ⟨h1, h2⟩ := h
    unfold Sz
    rw [e]
    exact ⟨by omega, by omega⟩
def IP (sh : List sE) (M W : aM) (B : Nat) : Prop := ∃ F kk, (ShOk sh F kk ∧ Sz sh F kk B) ∧ TpR M W ∧ ScR M W ∧ (∀ j, j < 4 → M.2.1 110 j = W.2.1 5 j) ∧ TdC (lc M 75) ∧ (Nil M W F kk ∨ ∃ n dl bal lv t c st st2 wl al l Ln, Rw sh M W F kk B n dl bal lv t c st st2 wl al l Ln)
def IV (sh : List sE) (M : aM) (B : Nat) : Prop := IP sh M (lc M 111) B
/-! what queries may change: in the class, in the reference -/
def FrX (M M' : aM) : Prop :=
  (∀ x, (x = 34 ∨ (38 ≤ x ∧ x < 74) ∨ x = 110 ∨ 127 ≤ x) → M'.2.1 x = M.2.1 x) ∧
  (∀ x, ((38 ≤ x ∧ x < 74) ∨ 127 ≤ x) → M'.1 x = M.1 x) ∧ M'.1 32 8 = M.1 32 8 ∧ M'.1 33 4 = M.1 33 4 ∧ (∀ j, 1 ≤ j → j ≤ 2 → M'.1 101 j = M.1 101 j ∧ M'.1 103 j = M.1 103 j)
def frF (j : Nat) : Prop := j = 2 ∨ j = 12 ∨ j = 13 ∨ j = 18 ∨ j = 19 ∨ j = 20
def FrY (W W' : aM) : Prop := (∀ j, frF j → W'.1 0 j = W.1 0 j) ∧ (∀ k, (k = 1 ∨ k = 3 ∨ k = 5 ∨ k = 8 ∨ k = 10 ∨ k = 11) → W'.2.1 k = W.2.1 k) ∧ (∀ j, j < 320 → W'.2.1 6 j = W.2.1 6 j) ∧ (∀ j, j < 4 → W'.2.1 7 j = W.2.1 7 j)
theorem FrX.rf (M : aM) : FrX M M := ⟨fun _ _ => rfl, fun _ _ => rfl, rfl, rfl, fun _ _ _ => ⟨rfl, rfl⟩⟩
theorem FrY.rf (M : aM) : FrY M M := ⟨fun _ _ => rfl, fun _ _ => rfl, fun _ _ => rfl, fun _ _ => rfl⟩
theorem FrX.tr {A B C : aM} (h1 : FrX A B) (h2 : FrX B C) : FrX A C := by
  obtain ⟨a1, a2, a3, a4, a8⟩ := h1
  obtain ⟨b1, b2, b3, b4, b8⟩ := h2
  exact ⟨fun x q => (b1 x q).trans (a1 x q), fun x q => (b2 x q).trans (a2 x q), b3.trans a3, b4.trans a4, fun j p q => ⟨(b8 j p q).1.trans (a8 j p q).1, (b8 j p q).2.trans (a8 j p q).2⟩⟩
theorem FrY.tr {A B C : aM} (h1 : FrY A B) (h2 : FrY B C) : FrY A C := by
  obtain ⟨a1, a2, a3, a4⟩ := h1
  obtain ⟨b1, b2, b3, b4⟩ := h2
  exact ⟨fun x q => (b1 x q).trans (a1 x q), fun x q => (b2 x q).trans (a2 x q), fun x q => (b3 x q).trans (a3 x q), fun x q => (b4 x q).trans (a4 x q)⟩
theorem FrX.sm {M M' : aM} (h : FrX M M') {b n : Nat} (hb : (38 ≤ b ∧ b + n ≤ 74) ∨ 127 ≤ b) : Sm M M' b n := fun x p q => ⟨h.2.1 x (by omega), h.1 x (by omega)⟩
theorem FrX.td {M M' : aM} (h : FrX M M') (ht : TdC (lc M 75)) : TdC (lc M' 75) := by
  have h8 := h.2.2.2.2
  obtain ⟨t1, t2, t3, t4⟩ := ht
  exact ⟨((h8 1 (by decide) (by decide)).1).trans t1, ((h8 2 (by decide) (by decide)).1).trans t2, ((h8 1 (by decide) (by decide)).2).trans t3, ((h8 2 (by decide) (by decide)).2).trans t4⟩
/-- the same in the reference's 15 cells -/
theorem FrY_of {W W' : aM} (h1 : ∀ j, W'.1 0 j = W.1 0 j) (h2 : ∀ k, k < 15 → W'.2.1 k = W.2.1 k) : FrY W W' := ⟨fun j _ => h1 j, fun k q => h2 k (by omega), fun j _ => by rw [h2 6 (by decide)], fun j _ => by rw [h2 7 (by decide)]⟩
theorem FrY_I (W : aM) {j : Nat} {v : Int32} (h : ¬ frF j) : FrY W (mI W 0 j v) := ⟨fun i q => by rw [mI_At, if_neg (fun (e : i = j) => h (e ▸ q))], fun _ _ => rfl, fun _ _ => rfl, fun _ _ => rfl⟩
theorem FrY_A (W : aM) {k j : Nat} {v : Int32} (h : k = 2 ∨ k = 4 ∨ k = 9 ∨ 12 ≤ k) : FrY W (mA W k j v) := ⟨fun _ _ => rfl, fun i q => mA_o (by omega), fun _ _ => by rw [mA_o (by omega)], fun _ _ => by rw [mA_o (by omega)]⟩
theorem FrY_R (W : aM) {k : Nat} {g : Nat → Int32} (h : k = 2 ∨ k = 4 ∨ k = 9 ∨ 12 ≤ k) : FrY W (mR W k g) := ⟨fun _ _ => rfl, fun i q => mR_o (by omega), fun _ _ => by rw [mR_o (by omega)], fun _ _ => by rw [mR_o (by omega)]⟩
theorem FrY_thr (W : aM) (v : Int32) : FrY W (mI W 0 0 v) := FrY_I W (by unfold frF; omega)
theorem FrY_G {W W' : aM} (h : FrG W W') : FrY W W' := ⟨fun j q => h.1 0 j (by unfold frF at q; unfold gA; omega), fun k q => h.2.1 k (by omega) (by omega), fun j _ => by rw [h.2.1 6 (by decide) (by decide)], fun j _ => by rw [h.2.1 7 (by decide) (by decide)]⟩
theorem cW.of {W W' : aM} {n dl bal lv : Nat} (h : cW W n dl bal lv) (h1 : W'.1 0 12 = W.1 0 12) (h2 : W'.2.1 3 = W.2.1 3) : cW W' n dl bal lv := by
  unfold cW at h ⊢
  rw [h1, h2]
  exact h
section
variable {sh : List sE} {M M' W W' : aM} {F : Nat → Option Nat} {kk n dl bal lv t B B' c st st2 : Nat} {f : Nat → Int32} {wl : Nat → List Sg} {al l : List (Nat → Int32)} {Ln : Nat → List (Option Se)}
theorem Bg.of (h : Bg sh M W f 32 33 38 41 72 74 109 110 kk 127 F n dl bal lv t B c st st2 wl al l Ln) (hs : Sm M M' 41 31) (hp : M'.1 72 = M.1 72) (hF : ∀ i b, i < 40 → F i = some b → Sm M M' b 31) (h12 : W'.1 0 12 = W.1 0 12) (h18 : W'.1 0 18 = W.1 0 18) (h19 : W'.1 0 19 = W.1 0 19) (h3 : W'.2.1 3 = W.2.1 3) (h11 : W'.2.1 11 = W.2.1 11) (hB : B ≤ B') : Bg sh M' W' f 32 33 38 41 72 74 109 110 kk 127 F n dl bal lv t B' c st st2 wl al l Ln := by
  obtain ⟨b1, b2, b3, b4, b5, b6, b7, b8, b9, b10, b11, b12, b13, b14, b15, b16, b17, b18, b19, b20, b21, b22⟩ := h
  exact ⟨b1, b2, b3, b4.sm hF, b5, b6, b7, b8, b9, b10, b11, b12, b13, b14, by rw [hp]; exact b15, by rw [hp]; exact b16, (b17.sm hs).mono hB, b18, by rw [h11]; exact b19.sm hB hF, b20.of h12 h3, by rw [h19]; exact b21, by rw [h18]; exact b22⟩
theorem TpR.of (h : TpR M W) (h1 : M'.1 33 4 = M.1 33 4) (h2 : M'.2.1 34 = M.2.1 34) (h3 : W'.1 0 2 = W.1 0 2) (h4 : W'.2.1 1 = W.2.1 1) : TpR M' W' := by
  unfold TpR at h ⊢
  rw [h1, h2, h3, h4]
  exact h
theorem ScR.of (h : ScR M W) (h1 : M'.1 38 2 = M.1 38 2) (h2 : M'.2.1 39 = M.2.1 39) (h3 : M'.2.1 40 = M.2.1 40) (h4 : W'.1 0 13 = W.1 0 13) (h5 : ∀ j, j < 320 → W'.2.1 6 j = W.2.1 6 j) (h6 : ∀ j, j < 4 → W'.2.1 7 j = W.2.1 7 j) : ScR M' W' := by
  obtain ⟨m, a1, a2, a3, a4⟩ := h
  refine ⟨m, a1, h1.trans a2, h4.trans a3, fun i hi => ?_⟩
  obtain ⟨k, c1, c2, c3, c4, c5, c6⟩ := a4 i hi
  rw [h2, h3]
  exact ⟨k, c1, c2, c3, (h6 i (by omega)).trans c4, fun j hj => (c5 j hj).trans (h5 _ (by omega)).symm, c6⟩
theorem ImR.of (h : ImR sh M W F kk n dl bal lv B) (h8 : M'.1 32 8 = M.1 32 8) (h20 : W'.1 0 20 = W.1 0 20) (h10 : W'.2.1 10 = W.2.1 10) (hk : ∀ b, kk = b + 3 → Sm M M' b 31) (hB : B ≤ B') : ImR sh M' W' F kk n dl bal lv B' := by
  obtain ⟨a1, a2, a3, a4⟩ := h
  refine ⟨by rw [h8, h20]; exact a1, by rw [h20]; exact a2, ?_, fun q => ?_⟩
  · rcases a3 with e | ⟨b, c1, c2, c3, c4, c5⟩
    · exact Or.inl e
    · exact Or.inr ⟨b, c1, c2, c3, (hk b c1).td c4, c5⟩
  · rw [h20] at q
    obtain ⟨b, t, wl, al, l, Ln, e1, e2, e3⟩ := a4 q
    rw [h10]
    exact ⟨b, t, wl, al, l, Ln, e1, e2, (e3.sm (hk b e1)).mono hB⟩
theorem ImR.ge (h : ImR sh M W F kk n dl bal lv B) : ∀ b, kk = b + 3 → 127 ≤ b := fun b e => by
  rcases h.2.2.1 with q | ⟨b', c1, c2, -⟩ <;> omega
theorem Rw.fr (h : Rw sh M W F kk B n dl bal lv t c st st2 wl al l Ln) (q : FrX M M') (p : FrY W W') (hB : B ≤ B') : Rw sh M' W' F kk B' n dl bal lv t c st st2 wl al l Ln := by
  obtain ⟨h1, h2, h3⟩ := h
  have hG := h1.2.2.2.1
  obtain ⟨p1, p2, p3, p4⟩ := p
  refine ⟨?_, by rw [p2 3 (by omega)]; exact h2, h3.of q.2.2.1 (p1 20 (by unfold frF; omega)) (p2 10 (by omega)) (fun b e => q.sm (by have := h3.ge b e; omega)) hB⟩
  rw [p2 8 (by omega)]
  exact h1.of (q.sm (by omega)) (q.2.1 72 (by omega)) (fun i b hi hb => q.sm (by have := (hG.1 i b hi hb).1; omega)) (p1 12 (by unfold frF; omega)) (p1 18 (by unfold frF; omega)) (p1 19 (by unfold frF; omega)) (p2 3 (by omega)) (p2 11 (by omega)) hB
theorem Nil.fr (h : Nil M W F kk) (q : FrX M M') (p : FrY W W') : Nil M' W' F kk := by
  obtain ⟨a0, a1, a2, a3, a4, a5, a6, a7, a8, a9, a10, a11, a12, a13, a14, a15⟩ := h
  obtain ⟨p1, p2, p3, p4⟩ := p
  refine ⟨a0, by rw [q.2.1 41 (by omega)]; exact a1, (p1 12 (by unfold frF; omega)).trans a2, (q.sm (by omega)).td a3, by rw [q.2.1 67 (by omega)]; exact a4, by rw [q.2.1 69 (by omega)]; exact a5, by rw [q.2.1 72 (by omega)]; exact a6, ?_, (p1 19 (by unfold frF; omega)).trans a8, q.2.2.1.trans a9, (p1 20 (by unfold frF; omega)).trans a10, by rw [p2 8 (by omega)]; exact a11, by rw [p2 8 (by omega)]; exact a12, by rw [q.1 43 (by omega)]; exact a13, a14, by rw [q.2.1 72 (by omega)]; exact a15⟩
  rw [p1 18 (by unfold frF; omega)]
  exact a7
theorem IP.fr (h : IP sh M W B) (q : FrX M M') (p : FrY W W') (hB : B ≤ B') : IP sh M' W' B' := by
  obtain ⟨F, kk, h1, h2, h3, h4, h5, h6⟩ := h
  refine ⟨F, kk, ⟨h1.1, h1.2.mono hB⟩, h2.of q.2.2.2.1 (q.1 34 (by omega)) (p.1 2 (by unfold frF; omega)) (p.2.1 1 (by omega)), h3.of (by rw [q.2.1 38 (by omega)]) (q.1 39 (by omega)) (q.1 40 (by omega)) (p.1 13 (by unfold frF; omega)) p.2.2.1 p.2.2.2, by rw [q.1 110 (by omega), p.2.1 5 (by omega)]; exact h4, q.td h5, ?_⟩
  rcases h6 with h6 | ⟨n, dl, bal, lv, t, c, st, st2, wl, al, l, Ln, h6⟩
  · exact Or.inl (h6.fr q p)
  · exact Or.inr ⟨n, dl, bal, lv, t, c, st, st2, wl, al, l, Ln, h6.fr q p hB⟩
theorem IP.mono (h : IP sh M W B) (hB : B ≤ B') : IP sh M W B' := h.fr (FrX.rf M) (FrY.rf W) hB
/-! the two memories in one heap -/
theorem mR_self (W : aM) (k : Nat) : mR W k (W.2.1 k) = W := by
  have e : (fun b j => if b = k then W.2.1 k j else W.2.1 b j) = W.2.1 := by
    funext b j
    by_cases q : b = k
    · rw [if_pos q, q]
    · rw [if_neg q]
  show (W.1, (fun b j => if b = k then W.2.1 k j else W.2.1 b j), W.2.2) = W
  rw [e]
theorem FrX_gl (M X : aM) : FrX M (gl M 111 15 X) := ⟨fun x q => gl_Ao (by omega), fun x q => funext (fun j => gl_Io (by omega)), gl_Io (by omega), gl_Io (by omega), fun j _ _ => ⟨gl_Io (by omega), gl_Io (by omega)⟩⟩
theorem FrY_gl (M X : aM) : FrY X (lc (gl M 111 15 X) 111) := FrY_of (fun j => gl_I (M := M) (R := X) (a := 111) (n := 15) (k := 0) (j := j) (by decide)) (fun k hk => gl_A (M := M) (R := X) (a := 111) (n := 15) (k := k) hk)
/-- the reference's memory put into the heap -/
theorem IP.iv (h : IP sh M W B) : IV sh (gl M 111 15 W) B := h.fr (FrX_gl M W) (FrY_gl M W) (Nat.le_refl _)
theorem gl_same (h : Sm M M' 111 15) : gl M' 111 15 (lc M 111) = M' := by
  have e1 : (fun b k => if 111 ≤ b ∧ b < 111 + 15 then (lc M 111).1 (b - 111) k else M'.1 b k) = M'.1 := by
    funext b k
    by_cases q : 111 ≤ b ∧ b < 111 + 15
    · rw [if_pos q, (h b q.1 q.2).1]
      show M.1 (111 + (b - 111)) k = M.1 b k
      rw [show 111 + (b - 111) = b by omega]
    · rw [if_neg q]
  have e2 : (fun b k => if 111 ≤ b ∧ b < 111 + 15 then (lc M 111).2.1 (b - 111) k else M'.2.1 b k) = M'.2.1 := by
    funext b k
    by_cases q : 111 ≤ b ∧ b < 111 + 15
    · rw [if_pos q, (h b q.1 q.2).2]
      show M.2.1 (111 + (b - 111)) k = M.2.1 b k
      rw [show 111 + (b - 111) = b by omega]
    · rw [if_neg q]
  show (_, _, M'.2.2) = M'
  rw [e1, e2]
end
