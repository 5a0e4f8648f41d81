/-! AN ACT THAT MAY NOT BE: both alike -/
def rf4 (r : Int32) : Prop := r = -1 ∨ ∃ j, j < 4 ∧ r = nI j
theorem rf4_0 : rf4 0 := Or.inr ⟨0, by decide, rfl⟩
theorem rf4_1 : rf4 1 := Or.inr ⟨1, by decide, rfl⟩
theorem rf4_2 : rf4 2 := Or.inr ⟨2, by decide, rfl⟩
theorem rf4_3 : rf4 3 := Or.inr ⟨3, by decide, rfl⟩
theorem rf4_n : rf4 (-1) := Or.inl rfl
theorem rf4_if {c : Prop} [Decidable c] {x y : Int32} (h1 : rf4 x) (h2 : rf4 y) : rf4 (if c then x else y) := by
  split
  · exact h1
  · exact h2
theorem stF_4 (n lv t : Nat) (cuts : Int32) (wl : Nat → List Sg) (ev ho : Nat → Int32) (k : Nat) (x y v m : Int32) : rf4 (stF n lv t cuts wl ev ho k x y v m) := by
  unfold stF
  split
  · unfold cmRf; repeat (first | exact rf4_0 | exact rf4_1 | exact rf4_2 | exact rf4_3 | exact rf4_n | apply rf4_if)
  · unfold tkRf; repeat (first | exact rf4_0 | exact rf4_1 | exact rf4_2 | exact rf4_3 | exact rf4_n | apply rf4_if)
  · unfold hpRf; repeat (first | exact rf4_0 | exact rf4_1 | exact rf4_2 | exact rf4_3 | exact rf4_n | apply rf4_if)
  · unfold hpRf; repeat (first | exact rf4_0 | exact rf4_1 | exact rf4_2 | exact rf4_3 | exact rf4_n | apply rf4_if)
  · repeat (first | exact rf4_0 | exact rf4_1 | exact rf4_2 | exact rf4_3 | exact rf4_n | apply rf4_if)
  · unfold wdRf; repeat (first | exact rf4_0 | exact rf4_1 | exact rf4_2 | exact rf4_3 | exact rf4_n | apply rf4_if)
  · unfold rsRf; repeat (first | exact rf4_0 | exact rf4_1 | exact rf4_2 | exact rf4_3 | exact rf4_n | apply rf4_if)
section
variable {sc sc2 : aS} {d d2 : Nat} {sh sh2 : List sE} {M M2 W R : aM} {a a2 s tp sr p o dr rf kk : Nat} {f : Nat → Int32} {n dl bal lv t B : Nat} {wl : Nat → List Sg} {al : List (Nat → Int32)} {lg : LgT} {Ln : Nat → List (Option Se)}
theorem S_refuse (hb : BusSh sh s tp sr a p o dr rf kk) (hS : RowSh sh a) (hS2 : ModSh sh2 a2) {k r : Nat} {x y v m : Int32} (hk : k ≤ 6) (h : RI (lc M a) f n dl bal lv t B wl al lg Ln) (hW : cW W n dl bal lv) (hr : r < 4) (hf : stF n lv t (f 1550) wl ((lc M a).2.1 2) ((lc M a).2.1 1) k x y v m = nI r) :
    evp sc (d + 7) 145 0 [(0, .ref s), (1, .int (nI k)), (2, .int x), (3, .int y), (4, .int v), (5, .int m)] [] (mk sh M) = some (some (.int (-1)), mk sh (mI M s 9 (nI r))) ∧
      evp sc2 (d2 + 12) 241 0 [(0, .ref a2), (1, .int (nI k)), (2, .int x), (3, .int y), (4, .int v), (5, .int m)] [] (mk sh2 (gl M2 a2 15 (mR W 8 f))) = some (some (.int (-1)), mk sh2 (gl M2 a2 15 (mR (mA (mI W 0 0 0) 5 r (W.2.1 5 r + 1)) 8 f))) := by
  have ne : ¬ nI r = -1 := fun q => nI_pos (n := r) (by omega) (by rw [q]; decide)
  have t0 := R_refusal (sc := sc) (d := d + 2) (M := M) (R := lc M a) (x := x) (y := y) (v := v) (m := m) hS h hk
  rw [hf, gl_lc] at t0
  have t1 := M_stops (sc := sc2) (d := d2 + 7) (M := M2) (W := mI W 0 0 0) (x := x) (y := y) (v := v) (m := m) hS2 (Or.inl rfl) h hW.thr hk
  rw [hf] at t1
  have t2 := M_tries_no (sc := sc2) (d := d2) hS2 ne t1
  have t3 := M_act_no (sc := sc2) (d := d2) (M := M2) (W := mR W 8 f) hS2 hr t2
  refine ⟨A_no hb hS ne t0, t3.trans ?_⟩
  rw [mI_mR, mA_mRo (by decide), mR_o (by decide)]
end
