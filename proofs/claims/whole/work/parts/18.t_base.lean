/-! the rarer instructions -/
def e_bs (h : aH) (a : Nat) (j v : Int32) : Option aH := match e_c h a with
  | some (.inl (1, n, .inl f)) => if ¬ (j < 0 ∨ n ≤ j.toNatClampNeg) then some (h.set (a - 32) (.inl (1, n, .inl (upd f j.toNatClampNeg (vp_nar .byte v))))) else none
  | _ => none
def e_qa (h : aH) (a : Nat) (j : Int32) : Option Value := match e_c h a with
  | some (.inl (3, n, .inr (.inr f))) => if ¬ (j < 0 ∨ n ≤ j.toNatClampNeg) then some (va_rf (f j.toNatClampNeg)) else none
  | _ => none
def e_qs (h : aH) (a : Nat) (j : Int32) (b : Nat) : Option aH := match e_c h a with
  | some (.inl (3, n, .inr (.inr f))) => (match e_c h b with
    | some (.inr (ci, _)) => if ¬ (j < 0 ∨ n ≤ j.toNatClampNeg) ∧ (pCl[ci]?).map (fun q => q.1) = some "SlotBuses$Row" then some (h.set (a - 32) (.inl (3, n, .inr (.inr (va_up f j.toNatClampNeg (some b)))))) else none
    | _ => none)
  | _ => none
section
variable {sc : aS} {d mid pc : Nat} {L : aL} {S : List Value} {h : aH} {nx x y : Nat}
theorem st_alen {a : Nat} (ht : pT mid pc = some (.arraylength, nx, x, y)) : evp sc d mid pc L (.ref a :: S) h = (e_arr sc h a 0).bind (fun q => evp sc d mid nx L (.int (Int32.ofNat q.1) :: S) h) := by
  rw [go_of ht]
  have e1 : e_rd sc .arraylength x y (.ref a :: S) h = (e_arr sc h a 0).map (fun q => .int (Int32.ofNat q.1) :: S) := by
    simp only [e_rd]
    cases e_arr sc h a 0 <;> rfl
  cases hg : e_arr sc h a 0 with
  | none => rw [hg] at e1; exact go_none rfl rfl rfl e1 rfl rfl rfl rfl (fun _ _ => rfl)
  | some v => rw [hg] at e1; exact go_rd rfl rfl rfl e1
theorem st_bastore {a : Nat} {j v : Int32} (ht : pT mid pc = some (.bastore, nx, x, y)) : evp sc d mid pc L (.int v :: .int j :: .ref a :: S) h = (e_bs h a j v).bind (fun h' => evp sc d mid nx L S h') := by
  rw [go_of ht]
  have e1 : e_wr .bastore x y (.int v :: .int j :: .ref a :: S) h = (e_bs h a j v).map (fun h' => (S, h')) := by
    simp only [e_wr, e_bs]
    split
    · rename_i hc
      simp only [hc]
      split <;> rfl
    · rename_i hc
      split
      · rename_i n f hq
        exact absurd hq (hc n f)
      · rfl
  cases hg : e_bs h a j v with
  | none => rw [hg] at e1; exact go_none rfl rfl rfl rfl rfl e1 rfl rfl (fun _ _ => rfl)
  | some v => rw [hg] at e1; exact go_wr rfl rfl rfl rfl rfl e1
theorem st_aaload {a : Nat} {j : Int32} (ht : pT mid pc = some (.aaload, nx, x, y)) : evp sc d mid pc L (.int j :: .ref a :: S) h = (e_qa h a j).bind (fun v => evp sc d mid nx L (v :: S) h) := by
  rw [go_of ht]
  have e1 : e_rd sc .aaload x y (.int j :: .ref a :: S) h = (e_qa h a j).map (fun v => v :: S) := by
    simp only [e_rd, e_qa]
    split
    · rename_i hc
      simp only [hc]
      split <;> rfl
    · rename_i hc
      split
      · rename_i n f hq
        exact absurd hq (hc n f)
      · rfl
  cases hg : e_qa h a j with
  | none => rw [hg] at e1; exact go_none rfl rfl rfl e1 rfl rfl rfl rfl (fun _ _ => rfl)
  | some v => rw [hg] at e1; exact go_rd rfl rfl rfl e1
theorem st_aastore {a b : Nat} {j : Int32} (ht : pT mid pc = some (.aastore, nx, x, y)) : evp sc d mid pc L (.ref b :: .int j :: .ref a :: S) h = (e_qs h a j b).bind (fun h' => evp sc d mid nx L S h') := by
  rw [go_of ht]
  have e1 : e_wr .aastore x y (.ref b :: .int j :: .ref a :: S) h = (e_qs h a j b).map (fun h' => (S, h')) := by
    simp only [e_wr, e_qs]
    split
    · rename_i hc
      simp only [hc]
      split
      · rename_i hc2
        simp only [hc2]
        split <;> rfl
      · rename_i hc2
        split
        · rename_i ci z hq
          exact absurd hq (hc2 ci z)
        · rfl
    · rename_i hc
      split
      · rename_i n f hq
        exact absurd hq (hc n f)
      · rfl
  cases hg : e_qs h a j b with
  | none => rw [hg] at e1; exact go_none rfl rfl rfl rfl rfl e1 rfl rfl (fun _ _ => rfl)
  | some v => rw [hg] at e1; exact go_wr rfl rfl rfl rfl rfl e1
theorem st_newa {t : ArrayType} {n : Int32} {c : aA} (hc : (bif Nat.beq x 2 then .inr (.inl (fun _ => 0)) else .inl (fun _ => 0) : aA) = c) (ht : pT mid pc = some (.newarray t, nx, x, y)) : evp sc d mid pc L (.int n :: S) h = if ¬ n < 0 ∧ n.toNatClampNeg * 8 ≤ 536870912 then evp sc d mid nx L (.ref (32 + h.length) :: S) (h ++ [.inl (x, n.toNatClampNeg, c)]) else none := by
  subst hc
  rw [go_of ht]
  by_cases hn : ¬ n < 0 ∧ n.toNatClampNeg * 8 ≤ 536870912
  · rw [if_pos hn]
    exact go_wr rfl rfl rfl rfl rfl (by simp only [e_wr, if_pos hn])
  · rw [if_neg hn]
    exact go_none rfl rfl rfl rfl rfl (by simp only [e_wr, if_neg hn]) rfl rfl (fun _ _ => rfl)
theorem st_anewa {ix : Nat} {n : Int32} (ht : pT mid pc = some (.anewarray ix, nx, x, y)) : evp sc d mid pc L (.int n :: S) h = if ¬ n < 0 ∧ n.toNatClampNeg * 8 ≤ 536870912 then evp sc d mid nx L (.ref (32 + h.length) :: S) (h ++ [.inl (3, n.toNatClampNeg, .inr (.inr (fun _ => none)))]) else none := by
  rw [go_of ht]
  by_cases hn : ¬ n < 0 ∧ n.toNatClampNeg * 8 ≤ 536870912
  · rw [if_pos hn]
    exact go_wr rfl rfl rfl rfl rfl (by simp only [e_wr, if_pos hn])
  · rw [if_neg hn]
    exact go_none rfl rfl rfl rfl rfl (by simp only [e_wr, if_neg hn]) rfl rfl (fun _ _ => rfl)
end
