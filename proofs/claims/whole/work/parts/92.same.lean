/-! THE SAME ROW in another memory -/
def Sm (M M' : aM) (b n : Nat) : Prop := ∀ x, b ≤ x → x < b + n → M'.1 x = M.1 x ∧ M'.2.1 x = M.2.1 x
theorem Sm.rf (M : aM) (b n : Nat) : Sm M M b n := fun _ _ _ => ⟨rfl, rfl⟩
theorem Sm.tr {A B C : aM} {b n : Nat} (h1 : Sm A B b n) (h2 : Sm B C b n) : Sm A C b n := fun x p q => ⟨((h2 x p q).1).trans (h1 x p q).1, ((h2 x p q).2).trans (h1 x p q).2⟩
theorem Sm_gl {M X : aM} {a m b n : Nat} (h : b + n ≤ a ∨ a + m ≤ b) : Sm M (gl M a m X) b n := fun x p q => ⟨funext (fun j => gl_Io (by omega)), gl_Ao (by omega)⟩
theorem Sm_I {M : aM} {x j b n : Nat} {v : Int32} (h : x < b ∨ b + n ≤ x) : Sm M (mI M x j v) b n := fun y p q => ⟨mI_o (by omega), rfl⟩
theorem Sm_A {M : aM} {x j b n : Nat} {v : Int32} (h : x < b ∨ b + n ≤ x) : Sm M (mA M x j v) b n := fun y p q => ⟨rfl, mA_o (by omega)⟩
theorem Sm_R {M : aM} {x b n : Nat} {f : Nat → Int32} (h : x < b ∨ b + n ≤ x) : Sm M (mR M x f) b n := fun y p q => ⟨rfl, mR_o (by omega)⟩
theorem alen_lt {k j : Nat} (h : j < alen k) : k < 31 := by
  rcases Nat.lt_or_ge k 31 with q | q
  · exact q
  · have : alen k = 0 := by
      unfold alen
      split <;> first | omega | rfl
    omega
theorem Agr_of {R R' : aM} (h1 : ∀ k, k < 31 → R'.1 k = R.1 k) (h2 : ∀ k, k < 31 → R'.2.1 k = R.2.1 k) : Agr R R' :=
  ⟨fun j _ => by rw [h1 0 (by decide)], fun j _ => by rw [h1 5 (by decide)], fun j _ => by rw [h1 19 (by decide)], fun j _ => ⟨by rw [h1 26 (by decide)], by rw [h1 28 (by decide)]⟩, fun k j hj => by rw [h2 k (alen_lt hj)]⟩
theorem TdC_of {R R' : aM} (h : TdC R) (h1 : ∀ k, k < 31 → R'.1 k = R.1 k) : TdC R' := by
  unfold TdC at h ⊢
  rw [h1 26 (by decide), h1 28 (by decide)]
  exact h
theorem Sm.lc1 {M M' : aM} {b : Nat} (h : Sm M M' b 31) : ∀ k, k < 31 → (lc M' b).1 k = (lc M b).1 k := fun k hk => (h (b + k) (by omega) (by omega)).1
theorem Sm.lc2 {M M' : aM} {b : Nat} (h : Sm M M' b 31) : ∀ k, k < 31 → (lc M' b).2.1 k = (lc M b).2.1 k := fun k hk => (h (b + k) (by omega) (by omega)).2
theorem Sm.td {M M' : aM} {b : Nat} (h : Sm M M' b 31) (ht : TdC (lc M b)) : TdC (lc M' b) := TdC_of ht h.lc1
theorem gl1 (M X : aM) (a : Nat) : ∀ k, k < 31 → (lc (gl M a 31 X) a).1 k = X.1 k := fun k hk => funext (fun j => gl_I hk)
theorem gl2 (M X : aM) (a : Nat) : ∀ k, k < 31 → (lc (gl M a 31 X) a).2.1 k = X.2.1 k := fun k hk => gl_A hk
section
variable {M M' R X : aM} {a b : Nat} {f : Nat → Int32} {n dl bal lv t B : Nat} {wl : Nat → List Sg} {al : List (Nat → Int32)} {lg : LgT} {Ln : Nat → List (Option Se)}
theorem RI.sm (h : RI (lc M b) f n dl bal lv t B wl al lg Ln) (hs : Sm M M' b 31) : RI (lc M' b) f n dl bal lv t B wl al lg Ln := h.ext (Agr_of hs.lc1 hs.lc2) (hs.td h.td) (fun _ _ => rfl)
theorem RI.put (h : RI X f n dl bal lv t B wl al lg Ln) : RI (lc (gl M a 31 X) a) f n dl bal lv t B wl al lg Ln := h.ext (Agr_of (gl1 M X a) (gl2 M X a)) (TdC_of h.td (gl1 M X a)) (fun _ _ => rfl)
theorem RI.cp (h : RI (lc M b) f n dl bal lv t B wl al lg Ln) (hT : TdC X) {f' : Nat → Int32} (hf : ∀ j, j < 1922 → f' j = f j) : RI (lc (gl M' a 31 (rCopy X (lc M b))) a) f' n dl bal lv t B wl al lg Ln :=
  RI.put (h.ext (rCopy_agr X (lc M b)) (rCopy_td X (lc M b) hT) hf)
theorem TdC_00 : TdC R00 := ⟨rfl, rfl, rfl, rfl⟩
end
/-- where the rows of the class lie that keep what was -/
def Geo (sh : List sE) (M : aM) (F : Nat → Option Nat) (z : Nat) : Prop := (∀ i b, i < 40 → F i = some b → z ≤ b ∧ RowSh sh b ∧ TdC (lc M b)) ∧ ∀ i j b b', i < 40 → j < 40 → ¬ i = j → F i = some b → F j = some b' → b + 31 ≤ b' ∨ b' + 31 ≤ b
theorem Geo.sm {sh : List sE} {M M' : aM} {F : Nat → Option Nat} {z : Nat} (h : Geo sh M F z) (hs : ∀ i b, i < 40 → F i = some b → Sm M M' b 31) : Geo sh M' F z := ⟨fun i b hi hb => ⟨(h.1 i b hi hb).1, (h.1 i b hi hb).2.1, (hs i b hi hb).td (h.1 i b hi hb).2.2⟩, h.2⟩
/-- what was, both alike: c rows are kept, from st on in the class, from st2 on in the reference -/
def KpR (M : aM) (F : Nat → Option Nat) (K : Nat → Int32) (st st2 c n dl bal lv B : Nat) : Prop := ∀ i, i < c → ∃ b t wl al l Ln, F ((st + i) % 40) = some b ∧ t ≤ 9999 ∧ RI (lc M b) (fun j => K (1922 * ((st2 + i) % 40) + j)) n dl bal lv t B wl al ((fun j => K (1922 * ((st2 + i) % 40) + j)), l, (fun j => K (1922 * ((st2 + i) % 40) + j))) Ln
theorem KpR.sm {M M' : aM} {F : Nat → Option Nat} {K : Nat → Int32} {st st2 c n dl bal lv B B' : Nat} (h : KpR M F K st st2 c n dl bal lv B) (hB : B ≤ B') (hs : ∀ i b, i < 40 → F i = some b → Sm M M' b 31) : KpR M' F K st st2 c n dl bal lv B' := fun i hi => by
  obtain ⟨b, t, wl, al, l, Ln, h1, h2, h3⟩ := h i hi
  exact ⟨b, t, wl, al, l, Ln, h1, h2, (h3.sm (hs _ b (Nat.mod_lt _ (by decide)) h1)).mono hB⟩
theorem KpR_0 (M : aM) (F : Nat → Option Nat) (K : Nat → Int32) (st st2 n dl bal lv B : Nat) : KpR M F K st st2 0 n dl bal lv B := fun i hi => absurd hi (Nat.not_lt_zero _)
