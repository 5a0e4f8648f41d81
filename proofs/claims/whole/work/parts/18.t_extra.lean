section
variable {sc : aS} {d : Nat} {L : aL} {S : List Value} {h : aH}
theorem s4_8 {n : Int32} : evp sc d 4 8 L (.int n :: S) h = if ¬ n < 0 ∧ n.toNatClampNeg * 8 ≤ 536870912 then evp sc d 4 10 L (.ref (32 + h.length) :: S) (h ++ [.inl (0, n.toNatClampNeg, .inl (fun _ => 0))]) else none := st_newa rfl (show pT 4 8 = some (.newarray .int, 10, 0, 0) by decide +kernel)
theorem s11_1 {v : Int32} : evp sc d 11 1 L (.int v :: S) h = if v = (0 : Int32) then evp sc d 11 28 L S h else if v = (1 : Int32) then evp sc d 11 30 L S h else if v = (2 : Int32) then evp sc d 11 47 L S h else evp sc d 11 60 L S h := by
  rw [go_of (show pT 11 1 = some (.tableswitch 59 0 2 #[27, 29, 46], 28, 0, 0) by decide +kernel)]
  by_cases h0 : v = (0 : Int32)
  · subst h0; rw [if_pos rfl]; exact go_sw (t := 28) (S' := S) rfl rfl rfl rfl rfl rfl rfl rfl
  by_cases h1 : v = (1 : Int32)
  · subst h1; rw [if_neg (by decide), if_pos rfl]; exact go_sw (t := 30) (S' := S) rfl rfl rfl rfl rfl rfl rfl rfl
  by_cases h2 : v = (2 : Int32)
  · subst h2; rw [if_neg (by decide), if_neg (by decide), if_pos rfl]; exact go_sw (t := 47) (S' := S) rfl rfl rfl rfl rfl rfl rfl rfl
  rw [if_neg h0, if_neg h1, if_neg h2]
  have hout : v.toInt < (0) ∨ (2) < v.toInt := by
    have q0 : v.toInt ≠ (0) := fun q => h0 (Int32.toInt_inj.mp (q.trans (by decide)))
    have q1 : v.toInt ≠ (1) := fun q => h1 (Int32.toInt_inj.mp (q.trans (by decide)))
    have q2 : v.toInt ≠ (2) := fun q => h2 (Int32.toInt_inj.mp (q.trans (by decide)))
    omega
  exact go_sw (t := 60) (S' := S) rfl rfl rfl rfl rfl rfl rfl (by show (if _ then _ else _) = _; rw [if_pos hout]; rfl)
theorem s14_7 {n : Int32} : evp sc d 14 7 L (.int n :: S) h = if ¬ n < 0 ∧ n.toNatClampNeg * 8 ≤ 536870912 then evp sc d 14 9 L (.ref (32 + h.length) :: S) (h ++ [.inl (0, n.toNatClampNeg, .inl (fun _ => 0))]) else none := st_newa rfl (show pT 14 7 = some (.newarray .int, 9, 0, 0) by decide +kernel)
theorem s14_15 {n : Int32} : evp sc d 14 15 L (.int n :: S) h = if ¬ n < 0 ∧ n.toNatClampNeg * 8 ≤ 536870912 then evp sc d 14 17 L (.ref (32 + h.length) :: S) (h ++ [.inl (0, n.toNatClampNeg, .inl (fun _ => 0))]) else none := st_newa rfl (show pT 14 15 = some (.newarray .int, 17, 0, 0) by decide +kernel)
theorem s14_23 {n : Int32} : evp sc d 14 23 L (.int n :: S) h = if ¬ n < 0 ∧ n.toNatClampNeg * 8 ≤ 536870912 then evp sc d 14 25 L (.ref (32 + h.length) :: S) (h ++ [.inl (0, n.toNatClampNeg, .inl (fun _ => 0))]) else none := st_newa rfl (show pT 14 23 = some (.newarray .int, 25, 0, 0) by decide +kernel)
theorem s14_31 {n : Int32} : evp sc d 14 31 L (.int n :: S) h = if ¬ n < 0 ∧ n.toNatClampNeg * 8 ≤ 536870912 then evp sc d 14 33 L (.ref (32 + h.length) :: S) (h ++ [.inl (0, n.toNatClampNeg, .inl (fun _ => 0))]) else none := st_newa rfl (show pT 14 31 = some (.newarray .int, 33, 0, 0) by decide +kernel)
theorem s14_39 {n : Int32} : evp sc d 14 39 L (.int n :: S) h = if ¬ n < 0 ∧ n.toNatClampNeg * 8 ≤ 536870912 then evp sc d 14 41 L (.ref (32 + h.length) :: S) (h ++ [.inl (0, n.toNatClampNeg, .inl (fun _ => 0))]) else none := st_newa rfl (show pT 14 39 = some (.newarray .int, 41, 0, 0) by decide +kernel)
theorem s14_47 {n : Int32} : evp sc d 14 47 L (.int n :: S) h = if ¬ n < 0 ∧ n.toNatClampNeg * 8 ≤ 536870912 then evp sc d 14 49 L (.ref (32 + h.length) :: S) (h ++ [.inl (0, n.toNatClampNeg, .inl (fun _ => 0))]) else none := st_newa rfl (show pT 14 47 = some (.newarray .int, 49, 0, 0) by decide +kernel)
theorem s14_56 {n : Int32} : evp sc d 14 56 L (.int n :: S) h = if ¬ n < 0 ∧ n.toNatClampNeg * 8 ≤ 536870912 then evp sc d 14 58 L (.ref (32 + h.length) :: S) (h ++ [.inl (0, n.toNatClampNeg, .inl (fun _ => 0))]) else none := st_newa rfl (show pT 14 56 = some (.newarray .int, 58, 0, 0) by decide +kernel)
theorem s14_65 {n : Int32} : evp sc d 14 65 L (.int n :: S) h = if ¬ n < 0 ∧ n.toNatClampNeg * 8 ≤ 536870912 then evp sc d 14 67 L (.ref (32 + h.length) :: S) (h ++ [.inl (0, n.toNatClampNeg, .inl (fun _ => 0))]) else none := st_newa rfl (show pT 14 65 = some (.newarray .int, 67, 0, 0) by decide +kernel)
theorem s14_74 {n : Int32} : evp sc d 14 74 L (.int n :: S) h = if ¬ n < 0 ∧ n.toNatClampNeg * 8 ≤ 536870912 then evp sc d 14 76 L (.ref (32 + h.length) :: S) (h ++ [.inl (0, n.toNatClampNeg, .inl (fun _ => 0))]) else none := st_newa rfl (show pT 14 74 = some (.newarray .int, 76, 0, 0) by decide +kernel)
theorem s14_83 {n : Int32} : evp sc d 14 83 L (.int n :: S) h = if ¬ n < 0 ∧ n.toNatClampNeg * 8 ≤ 536870912 then evp sc d 14 85 L (.ref (32 + h.length) :: S) (h ++ [.inl (0, n.toNatClampNeg, .inl (fun _ => 0))]) else none := st_newa rfl (show pT 14 83 = some (.newarray .int, 85, 0, 0) by decide +kernel)
theorem s14_91 {n : Int32} : evp sc d 14 91 L (.int n :: S) h = if ¬ n < 0 ∧ n.toNatClampNeg * 8 ≤ 536870912 then evp sc d 14 93 L (.ref (32 + h.length) :: S) (h ++ [.inl (0, n.toNatClampNeg, .inl (fun _ => 0))]) else none := st_newa rfl (show pT 14 91 = some (.newarray .int, 93, 0, 0) by decide +kernel)
theorem s19_1 {v : Int32} : evp sc d 19 1 L (.int v :: S) h = if v = (0 : Int32) then evp sc d 19 36 L S h else if v = (1 : Int32) then evp sc d 19 43 L S h else if v = (2 : Int32) then evp sc d 19 57 L S h else if v = (3 : Int32) then evp sc d 19 64 L S h else if v = (4 : Int32) then evp sc d 19 71 L S h else evp sc d 19 78 L S h := by
  rw [go_of (show pT 19 1 = some (.tableswitch 77 0 4 #[35, 42, 56, 63, 70], 36, 0, 0) by decide +kernel)]
  by_cases h0 : v = (0 : Int32)
  · subst h0; rw [if_pos rfl]; exact go_sw (t := 36) (S' := S) rfl rfl rfl rfl rfl rfl rfl rfl
  by_cases h1 : v = (1 : Int32)
  · subst h1; rw [if_neg (by decide), if_pos rfl]; exact go_sw (t := 43) (S' := S) rfl rfl rfl rfl rfl rfl rfl rfl
  by_cases h2 : v = (2 : Int32)
  · subst h2; rw [if_neg (by decide), if_neg (by decide), if_pos rfl]; exact go_sw (t := 57) (S' := S) rfl rfl rfl rfl rfl rfl rfl rfl
  by_cases h3 : v = (3 : Int32)
  · subst h3; rw [if_neg (by decide), if_neg (by decide), if_neg (by decide), if_pos rfl]; exact go_sw (t := 64) (S' := S) rfl rfl rfl rfl rfl rfl rfl rfl
  by_cases h4 : v = (4 : Int32)
  · subst h4; rw [if_neg (by decide), if_neg (by decide), if_neg (by decide), if_neg (by decide), if_pos rfl]; exact go_sw (t := 71) (S' := S) rfl rfl rfl rfl rfl rfl rfl rfl
  rw [if_neg h0, if_neg h1, if_neg h2, if_neg h3, if_neg h4]
  have hout : v.toInt < (0) ∨ (4) < v.toInt := by
    have q0 : v.toInt ≠ (0) := fun q => h0 (Int32.toInt_inj.mp (q.trans (by decide)))
    have q1 : v.toInt ≠ (1) := fun q => h1 (Int32.toInt_inj.mp (q.trans (by decide)))
    have q2 : v.toInt ≠ (2) := fun q => h2 (Int32.toInt_inj.mp (q.trans (by decide)))
    have q3 : v.toInt ≠ (3) := fun q => h3 (Int32.toInt_inj.mp (q.trans (by decide)))
    have q4 : v.toInt ≠ (4) := fun q => h4 (Int32.toInt_inj.mp (q.trans (by decide)))
    omega
  exact go_sw (t := 78) (S' := S) rfl rfl rfl rfl rfl rfl rfl (by show (if _ then _ else _) = _; rw [if_pos hout]; rfl)
theorem s20_67 {v : Int32} : evp sc d 20 67 L (.int v :: S) h = if v = (0 : Int32) then evp sc d 20 92 L S h else if v = (1 : Int32) then evp sc d 20 100 L S h else if v = (2 : Int32) then evp sc d 20 108 L S h else evp sc d 20 116 L S h := by
  rw [go_of (show pT 20 67 = some (.tableswitch 49 0 2 #[25, 33, 41], 92, 0, 0) by decide +kernel)]
  by_cases h0 : v = (0 : Int32)
  · subst h0; rw [if_pos rfl]; exact go_sw (t := 92) (S' := S) rfl rfl rfl rfl rfl rfl rfl rfl
  by_cases h1 : v = (1 : Int32)
  · subst h1; rw [if_neg (by decide), if_pos rfl]; exact go_sw (t := 100) (S' := S) rfl rfl rfl rfl rfl rfl rfl rfl
  by_cases h2 : v = (2 : Int32)
  · subst h2; rw [if_neg (by decide), if_neg (by decide), if_pos rfl]; exact go_sw (t := 108) (S' := S) rfl rfl rfl rfl rfl rfl rfl rfl
  rw [if_neg h0, if_neg h1, if_neg h2]
  have hout : v.toInt < (0) ∨ (2) < v.toInt := by
    have q0 : v.toInt ≠ (0) := fun q => h0 (Int32.toInt_inj.mp (q.trans (by decide)))
    have q1 : v.toInt ≠ (1) := fun q => h1 (Int32.toInt_inj.mp (q.trans (by decide)))
    have q2 : v.toInt ≠ (2) := fun q => h2 (Int32.toInt_inj.mp (q.trans (by decide)))
    omega
  exact go_sw (t := 116) (S' := S) rfl rfl rfl rfl rfl rfl rfl (by show (if _ then _ else _) = _; rw [if_pos hout]; rfl)
theorem s36_18 {n : Int32} : evp sc d 36 18 L (.int n :: S) h = if ¬ n < 0 ∧ n.toNatClampNeg * 8 ≤ 536870912 then evp sc d 36 20 L (.ref (32 + h.length) :: S) (h ++ [.inl (0, n.toNatClampNeg, .inl (fun _ => 0))]) else none := st_newa rfl (show pT 36 18 = some (.newarray .int, 20, 0, 0) by decide +kernel)
theorem s36_26 {n : Int32} : evp sc d 36 26 L (.int n :: S) h = if ¬ n < 0 ∧ n.toNatClampNeg * 8 ≤ 536870912 then evp sc d 36 28 L (.ref (32 + h.length) :: S) (h ++ [.inl (0, n.toNatClampNeg, .inl (fun _ => 0))]) else none := st_newa rfl (show pT 36 26 = some (.newarray .int, 28, 0, 0) by decide +kernel)
theorem s36_34 {n : Int32} : evp sc d 36 34 L (.int n :: S) h = if ¬ n < 0 ∧ n.toNatClampNeg * 8 ≤ 536870912 then evp sc d 36 36 L (.ref (32 + h.length) :: S) (h ++ [.inl (0, n.toNatClampNeg, .inl (fun _ => 0))]) else none := st_newa rfl (show pT 36 34 = some (.newarray .int, 36, 0, 0) by decide +kernel)
theorem s39_14 {v : Int32} : evp sc d 39 14 L (.int v :: S) h = if v = (0 : Int32) then evp sc d 39 40 L S h else if v = (1 : Int32) then evp sc d 39 59 L S h else evp sc d 39 70 L S h := by
  rw [go_of (show pT 39 14 = some (.lookupswitch 56 #[(0, 26), (1, 45)], 40, 0, 0) by decide +kernel)]
  by_cases h0 : v = (0 : Int32)
  · subst h0; rw [if_pos rfl]; exact go_sw (t := 40) (S' := S) rfl rfl rfl rfl rfl rfl rfl rfl
  by_cases h1 : v = (1 : Int32)
  · subst h1; rw [if_neg (by decide), if_pos rfl]; exact go_sw (t := 59) (S' := S) rfl rfl rfl rfl rfl rfl rfl rfl
  rw [if_neg h0, if_neg h1]
  have q0 : v.toInt ≠ (0) := fun q => h0 (Int32.toInt_inj.mp (q.trans (by decide)))
  have q1 : v.toInt ≠ (1) := fun q => h1 (Int32.toInt_inj.mp (q.trans (by decide)))
  exact go_sw (t := 70) (S' := S) rfl rfl rfl rfl rfl rfl rfl (by simp [e_sw, Op.lookupswitch.offset, e_tg, q0, Ne.symm q0, q1, Ne.symm q1])
theorem s44_25 {a : Nat} : evp sc d 44 25 L (.ref a :: S) h = (e_arr sc h a 0).bind (fun q => evp sc d 44 26 L (.int (Int32.ofNat q.1) :: S) h) := st_alen (show pT 44 25 = some (.arraylength, 26, 0, 0) by decide +kernel)
theorem s44_137 {a : Nat} : evp sc d 44 137 L (.ref a :: S) h = (e_arr sc h a 0).bind (fun q => evp sc d 44 138 L (.int (Int32.ofNat q.1) :: S) h) := st_alen (show pT 44 137 = some (.arraylength, 138, 0, 0) by decide +kernel)
theorem s49_10 {a : Nat} : evp sc d 49 10 L (.ref a :: S) h = (e_arr sc h a 0).bind (fun q => evp sc d 49 11 L (.int (Int32.ofNat q.1) :: S) h) := st_alen (show pT 49 10 = some (.arraylength, 11, 0, 0) by decide +kernel)
theorem s49_65 {v : Int32} : evp sc d 49 65 L (.int v :: S) h = if v = (0 : Int32) then evp sc d 49 96 L S h else if v = (1 : Int32) then evp sc d 49 103 L S h else if v = (2 : Int32) then evp sc d 49 113 L S h else if v = (3 : Int32) then evp sc d 49 123 L S h else evp sc d 49 125 L S h := by
  rw [go_of (show pT 49 65 = some (.tableswitch 60 0 3 #[31, 38, 48, 58], 96, 0, 0) by decide +kernel)]
  by_cases h0 : v = (0 : Int32)
  · subst h0; rw [if_pos rfl]; exact go_sw (t := 96) (S' := S) rfl rfl rfl rfl rfl rfl rfl rfl
  by_cases h1 : v = (1 : Int32)
  · subst h1; rw [if_neg (by decide), if_pos rfl]; exact go_sw (t := 103) (S' := S) rfl rfl rfl rfl rfl rfl rfl rfl
  by_cases h2 : v = (2 : Int32)
  · subst h2; rw [if_neg (by decide), if_neg (by decide), if_pos rfl]; exact go_sw (t := 113) (S' := S) rfl rfl rfl rfl rfl rfl rfl rfl
  by_cases h3 : v = (3 : Int32)
  · subst h3; rw [if_neg (by decide), if_neg (by decide), if_neg (by decide), if_pos rfl]; exact go_sw (t := 123) (S' := S) rfl rfl rfl rfl rfl rfl rfl rfl
  rw [if_neg h0, if_neg h1, if_neg h2, if_neg h3]
  have hout : v.toInt < (0) ∨ (3) < v.toInt := by
    have q0 : v.toInt ≠ (0) := fun q => h0 (Int32.toInt_inj.mp (q.trans (by decide)))
    have q1 : v.toInt ≠ (1) := fun q => h1 (Int32.toInt_inj.mp (q.trans (by decide)))
    have q2 : v.toInt ≠ (2) := fun q => h2 (Int32.toInt_inj.mp (q.trans (by decide)))
    have q3 : v.toInt ≠ (3) := fun q => h3 (Int32.toInt_inj.mp (q.trans (by decide)))
    omega
  exact go_sw (t := 125) (S' := S) rfl rfl rfl rfl rfl rfl rfl (by show (if _ then _ else _) = _; rw [if_pos hout]; rfl)
theorem s51_7 {n : Int32} : evp sc d 51 7 L (.int n :: S) h = if ¬ n < 0 ∧ n.toNatClampNeg * 8 ≤ 536870912 then evp sc d 51 10 L (.ref (32 + h.length) :: S) (h ++ [.inl (3, n.toNatClampNeg, .inr (.inr (fun _ => none)))]) else none := st_anewa (show pT 51 7 = some (.anewarray 11, 10, 3, 0) by decide +kernel)
theorem s53_53 {a : Nat} {j : Int32} : evp sc d 53 53 L (.int j :: .ref a :: S) h = (e_qa h a j).bind (fun v => evp sc d 53 54 L (v :: S) h) := st_aaload (show pT 53 53 = some (.aaload, 54, 0, 0) by decide +kernel)
theorem s53_69 {a b : Nat} {j : Int32} : evp sc d 53 69 L (.ref b :: .int j :: .ref a :: S) h = (e_qs h a j b).bind (fun h' => evp sc d 53 70 L S h') := st_aastore (show pT 53 69 = some (.aastore, 70, 0, 0) by decide +kernel)
theorem s53_75 {a : Nat} {j : Int32} : evp sc d 53 75 L (.int j :: .ref a :: S) h = (e_qa h a j).bind (fun v => evp sc d 53 76 L (v :: S) h) := st_aaload (show pT 53 75 = some (.aaload, 76, 0, 0) by decide +kernel)
theorem s54_35 {a : Nat} {j : Int32} : evp sc d 54 35 L (.int j :: .ref a :: S) h = (e_qa h a j).bind (fun v => evp sc d 54 36 L (v :: S) h) := st_aaload (show pT 54 35 = some (.aaload, 36, 0, 0) by decide +kernel)
theorem s55_41 {n : Int32} : evp sc d 55 41 L (.int n :: S) h = if ¬ n < 0 ∧ n.toNatClampNeg * 8 ≤ 536870912 then evp sc d 55 43 L (.ref (32 + h.length) :: S) (h ++ [.inl (0, n.toNatClampNeg, .inl (fun _ => 0))]) else none := st_newa rfl (show pT 55 41 = some (.newarray .int, 43, 0, 0) by decide +kernel)
theorem s55_48 {n : Int32} : evp sc d 55 48 L (.int n :: S) h = if ¬ n < 0 ∧ n.toNatClampNeg * 8 ≤ 536870912 then evp sc d 55 50 L (.ref (32 + h.length) :: S) (h ++ [.inl (0, n.toNatClampNeg, .inl (fun _ => 0))]) else none := st_newa rfl (show pT 55 48 = some (.newarray .int, 50, 0, 0) by decide +kernel)
theorem s55_55 {n : Int32} : evp sc d 55 55 L (.int n :: S) h = if ¬ n < 0 ∧ n.toNatClampNeg * 8 ≤ 536870912 then evp sc d 55 57 L (.ref (32 + h.length) :: S) (h ++ [.inl (0, n.toNatClampNeg, .inl (fun _ => 0))]) else none := st_newa rfl (show pT 55 55 = some (.newarray .int, 57, 0, 0) by decide +kernel)
theorem s55_63 {n : Int32} : evp sc d 55 63 L (.int n :: S) h = if ¬ n < 0 ∧ n.toNatClampNeg * 8 ≤ 536870912 then evp sc d 55 65 L (.ref (32 + h.length) :: S) (h ++ [.inl (0, n.toNatClampNeg, .inl (fun _ => 0))]) else none := st_newa rfl (show pT 55 63 = some (.newarray .int, 65, 0, 0) by decide +kernel)
theorem s63_1 {v : Int32} : evp sc d 63 1 L (.int v :: S) h = if v = (0 : Int32) then evp sc d 63 44 L S h else if v = (1 : Int32) then evp sc d 63 55 L S h else if v = (2 : Int32) then evp sc d 63 61 L S h else if v = (3 : Int32) then evp sc d 63 68 L S h else if v = (4 : Int32) then evp sc d 63 75 L S h else if v = (5 : Int32) then evp sc d 63 89 L S h else if v = (6 : Int32) then evp sc d 63 96 L S h else evp sc d 63 105 L S h := by
  rw [go_of (show pT 63 1 = some (.tableswitch 104 0 6 #[43, 54, 60, 67, 74, 88, 95], 44, 0, 0) by decide +kernel)]
  by_cases h0 : v = (0 : Int32)
  · subst h0; rw [if_pos rfl]; exact go_sw (t := 44) (S' := S) rfl rfl rfl rfl rfl rfl rfl rfl
  by_cases h1 : v = (1 : Int32)
  · subst h1; rw [if_neg (by decide), if_pos rfl]; exact go_sw (t := 55) (S' := S) rfl rfl rfl rfl rfl rfl rfl rfl
  by_cases h2 : v = (2 : Int32)
  · subst h2; rw [if_neg (by decide), if_neg (by decide), if_pos rfl]; exact go_sw (t := 61) (S' := S) rfl rfl rfl rfl rfl rfl rfl rfl
  by_cases h3 : v = (3 : Int32)
  · subst h3; rw [if_neg (by decide), if_neg (by decide), if_neg (by decide), if_pos rfl]; exact go_sw (t := 68) (S' := S) rfl rfl rfl rfl rfl rfl rfl rfl
  by_cases h4 : v = (4 : Int32)
  · subst h4; rw [if_neg (by decide), if_neg (by decide), if_neg (by decide), if_neg (by decide), if_pos rfl]; exact go_sw (t := 75) (S' := S) rfl rfl rfl rfl rfl rfl rfl rfl
  by_cases h5 : v = (5 : Int32)
  · subst h5; rw [if_neg (by decide), if_neg (by decide), if_neg (by decide), if_neg (by decide), if_neg (by decide), if_pos rfl]; exact go_sw (t := 89) (S' := S) rfl rfl rfl rfl rfl rfl rfl rfl
  by_cases h6 : v = (6 : Int32)
  · subst h6; rw [if_neg (by decide), if_neg (by decide), if_neg (by decide), if_neg (by decide), if_neg (by decide), if_neg (by decide), if_pos rfl]; exact go_sw (t := 96) (S' := S) rfl rfl rfl rfl rfl rfl rfl rfl
  rw [if_neg h0, if_neg h1, if_neg h2, if_neg h3, if_neg h4, if_neg h5, if_neg h6]
  have hout : v.toInt < (0) ∨ (6) < v.toInt := by
    have q0 : v.toInt ≠ (0) := fun q => h0 (Int32.toInt_inj.mp (q.trans (by decide)))
    have q1 : v.toInt ≠ (1) := fun q => h1 (Int32.toInt_inj.mp (q.trans (by decide)))
    have q2 : v.toInt ≠ (2) := fun q => h2 (Int32.toInt_inj.mp (q.trans (by decide)))
    have q3 : v.toInt ≠ (3) := fun q => h3 (Int32.toInt_inj.mp (q.trans (by decide)))
    have q4 : v.toInt ≠ (4) := fun q => h4 (Int32.toInt_inj.mp (q.trans (by decide)))
    have q5 : v.toInt ≠ (5) := fun q => h5 (Int32.toInt_inj.mp (q.trans (by decide)))
    have q6 : v.toInt ≠ (6) := fun q => h6 (Int32.toInt_inj.mp (q.trans (by decide)))
    omega
  exact go_sw (t := 105) (S' := S) rfl rfl rfl rfl rfl rfl rfl (by show (if _ then _ else _) = _; rw [if_pos hout]; rfl)
theorem s71_4 {v : Int32} : evp sc d 71 4 L (.int v :: S) h = if v = (0 : Int32) then evp sc d 71 44 L S h else if v = (1 : Int32) then evp sc d 71 59 L S h else if v = (2 : Int32) then evp sc d 71 69 L S h else if v = (3 : Int32) then evp sc d 71 79 L S h else if v = (4 : Int32) then evp sc d 71 102 L S h else if v = (5 : Int32) then evp sc d 71 135 L S h else evp sc d 71 146 L S h := by
  rw [go_of (show pT 71 4 = some (.tableswitch 142 0 5 #[40, 55, 65, 75, 98, 131], 44, 0, 0) by decide +kernel)]
  by_cases h0 : v = (0 : Int32)
  · subst h0; rw [if_pos rfl]; exact go_sw (t := 44) (S' := S) rfl rfl rfl rfl rfl rfl rfl rfl
  by_cases h1 : v = (1 : Int32)
  · subst h1; rw [if_neg (by decide), if_pos rfl]; exact go_sw (t := 59) (S' := S) rfl rfl rfl rfl rfl rfl rfl rfl
  by_cases h2 : v = (2 : Int32)
  · subst h2; rw [if_neg (by decide), if_neg (by decide), if_pos rfl]; exact go_sw (t := 69) (S' := S) rfl rfl rfl rfl rfl rfl rfl rfl
  by_cases h3 : v = (3 : Int32)
  · subst h3; rw [if_neg (by decide), if_neg (by decide), if_neg (by decide), if_pos rfl]; exact go_sw (t := 79) (S' := S) rfl rfl rfl rfl rfl rfl rfl rfl
  by_cases h4 : v = (4 : Int32)
  · subst h4; rw [if_neg (by decide), if_neg (by decide), if_neg (by decide), if_neg (by decide), if_pos rfl]; exact go_sw (t := 102) (S' := S) rfl rfl rfl rfl rfl rfl rfl rfl
  by_cases h5 : v = (5 : Int32)
  · subst h5; rw [if_neg (by decide), if_neg (by decide), if_neg (by decide), if_neg (by decide), if_neg (by decide), if_pos rfl]; exact go_sw (t := 135) (S' := S) rfl rfl rfl rfl rfl rfl rfl rfl
  rw [if_neg h0, if_neg h1, if_neg h2, if_neg h3, if_neg h4, if_neg h5]
  have hout : v.toInt < (0) ∨ (5) < v.toInt := by
    have q0 : v.toInt ≠ (0) := fun q => h0 (Int32.toInt_inj.mp (q.trans (by decide)))
    have q1 : v.toInt ≠ (1) := fun q => h1 (Int32.toInt_inj.mp (q.trans (by decide)))
    have q2 : v.toInt ≠ (2) := fun q => h2 (Int32.toInt_inj.mp (q.trans (by decide)))
    have q3 : v.toInt ≠ (3) := fun q => h3 (Int32.toInt_inj.mp (q.trans (by decide)))
    have q4 : v.toInt ≠ (4) := fun q => h4 (Int32.toInt_inj.mp (q.trans (by decide)))
    have q5 : v.toInt ≠ (5) := fun q => h5 (Int32.toInt_inj.mp (q.trans (by decide)))
    omega
  exact go_sw (t := 146) (S' := S) rfl rfl rfl rfl rfl rfl rfl (by show (if _ then _ else _) = _; rw [if_pos hout]; rfl)
theorem s77_12 {v : Int32} : evp sc d 77 12 L (.int v :: S) h = if v = (0 : Int32) then evp sc d 77 40 L S h else if v = (1 : Int32) then evp sc d 77 47 L S h else if v = (2 : Int32) then evp sc d 77 54 L S h else evp sc d 77 68 L S h := by
  rw [go_of (show pT 77 12 = some (.tableswitch 56 0 2 #[28, 35, 42], 40, 0, 0) by decide +kernel)]
  by_cases h0 : v = (0 : Int32)
  · subst h0; rw [if_pos rfl]; exact go_sw (t := 40) (S' := S) rfl rfl rfl rfl rfl rfl rfl rfl
  by_cases h1 : v = (1 : Int32)
  · subst h1; rw [if_neg (by decide), if_pos rfl]; exact go_sw (t := 47) (S' := S) rfl rfl rfl rfl rfl rfl rfl rfl
  by_cases h2 : v = (2 : Int32)
  · subst h2; rw [if_neg (by decide), if_neg (by decide), if_pos rfl]; exact go_sw (t := 54) (S' := S) rfl rfl rfl rfl rfl rfl rfl rfl
  rw [if_neg h0, if_neg h1, if_neg h2]
  have hout : v.toInt < (0) ∨ (2) < v.toInt := by
    have q0 : v.toInt ≠ (0) := fun q => h0 (Int32.toInt_inj.mp (q.trans (by decide)))
    have q1 : v.toInt ≠ (1) := fun q => h1 (Int32.toInt_inj.mp (q.trans (by decide)))
    have q2 : v.toInt ≠ (2) := fun q => h2 (Int32.toInt_inj.mp (q.trans (by decide)))
    omega
  exact go_sw (t := 68) (S' := S) rfl rfl rfl rfl rfl rfl rfl (by show (if _ then _ else _) = _; rw [if_pos hout]; rfl)
theorem s88_1 {v : Int32} : evp sc d 88 1 L (.int v :: S) h = if v = (0 : Int32) then evp sc d 88 60 L S h else if v = (1 : Int32) then evp sc d 88 65 L S h else if v = (2 : Int32) then evp sc d 88 73 L S h else if v = (3 : Int32) then evp sc d 88 81 L S h else if v = (4 : Int32) then evp sc d 88 89 L S h else if v = (5 : Int32) then evp sc d 88 97 L S h else if v = (6 : Int32) then evp sc d 88 105 L S h else if v = (7 : Int32) then evp sc d 88 113 L S h else if v = (8 : Int32) then evp sc d 88 121 L S h else if v = (9 : Int32) then evp sc d 88 129 L S h else if v = (10 : Int32) then evp sc d 88 137 L S h else evp sc d 88 145 L S h := by
  rw [go_of (show pT 88 1 = some (.tableswitch 144 0 10 #[59, 64, 72, 80, 88, 96, 104, 112, 120, 128, 136], 60, 0, 0) by decide +kernel)]
  by_cases h0 : v = (0 : Int32)
  · subst h0; rw [if_pos rfl]; exact go_sw (t := 60) (S' := S) rfl rfl rfl rfl rfl rfl rfl rfl
  by_cases h1 : v = (1 : Int32)
  · subst h1; rw [if_neg (by decide), if_pos rfl]; exact go_sw (t := 65) (S' := S) rfl rfl rfl rfl rfl rfl rfl rfl
  by_cases h2 : v = (2 : Int32)
  · subst h2; rw [if_neg (by decide), if_neg (by decide), if_pos rfl]; exact go_sw (t := 73) (S' := S) rfl rfl rfl rfl rfl rfl rfl rfl
  by_cases h3 : v = (3 : Int32)
  · subst h3; rw [if_neg (by decide), if_neg (by decide), if_neg (by decide), if_pos rfl]; exact go_sw (t := 81) (S' := S) rfl rfl rfl rfl rfl rfl rfl rfl
  by_cases h4 : v = (4 : Int32)
  · subst h4; rw [if_neg (by decide), if_neg (by decide), if_neg (by decide), if_neg (by decide), if_pos rfl]; exact go_sw (t := 89) (S' := S) rfl rfl rfl rfl rfl rfl rfl rfl
  by_cases h5 : v = (5 : Int32)
  · subst h5; rw [if_neg (by decide), if_neg (by decide), if_neg (by decide), if_neg (by decide), if_neg (by decide), if_pos rfl]; exact go_sw (t := 97) (S' := S) rfl rfl rfl rfl rfl rfl rfl rfl
  by_cases h6 : v = (6 : Int32)
  · subst h6; rw [if_neg (by decide), if_neg (by decide), if_neg (by decide), if_neg (by decide), if_neg (by decide), if_neg (by decide), if_pos rfl]; exact go_sw (t := 105) (S' := S) rfl rfl rfl rfl rfl rfl rfl rfl
  by_cases h7 : v = (7 : Int32)
  · subst h7; rw [if_neg (by decide), if_neg (by decide), if_neg (by decide), if_neg (by decide), if_neg (by decide), if_neg (by decide), if_neg (by decide), if_pos rfl]; exact go_sw (t := 113) (S' := S) rfl rfl rfl rfl rfl rfl rfl rfl
  by_cases h8 : v = (8 : Int32)
  · subst h8; rw [if_neg (by decide), if_neg (by decide), if_neg (by decide), if_neg (by decide), if_neg (by decide), if_neg (by decide), if_neg (by decide), if_neg (by decide), if_pos rfl]; exact go_sw (t := 121) (S' := S) rfl rfl rfl rfl rfl rfl rfl rfl
  by_cases h9 : v = (9 : Int32)
  · subst h9; rw [if_neg (by decide), if_neg (by decide), if_neg (by decide), if_neg (by decide), if_neg (by decide), if_neg (by decide), if_neg (by decide), if_neg (by decide), if_neg (by decide), if_pos rfl]; exact go_sw (t := 129) (S' := S) rfl rfl rfl rfl rfl rfl rfl rfl
  by_cases h10 : v = (10 : Int32)
  · subst h10; rw [if_neg (by decide), if_neg (by decide), if_neg (by decide), if_neg (by decide), if_neg (by decide), if_neg (by decide), if_neg (by decide), if_neg (by decide), if_neg (by decide), if_neg (by decide), if_pos rfl]; exact go_sw (t := 137) (S' := S) rfl rfl rfl rfl rfl rfl rfl rfl
  rw [if_neg h0, if_neg h1, if_neg h2, if_neg h3, if_neg h4, if_neg h5, if_neg h6, if_neg h7, if_neg h8, if_neg h9, if_neg h10]
  have hout : v.toInt < (0) ∨ (10) < v.toInt := by
    have q0 : v.toInt ≠ (0) := fun q => h0 (Int32.toInt_inj.mp (q.trans (by decide)))
    have q1 : v.toInt ≠ (1) := fun q => h1 (Int32.toInt_inj.mp (q.trans (by decide)))
    have q2 : v.toInt ≠ (2) := fun q => h2 (Int32.toInt_inj.mp (q.trans (by decide)))
    have q3 : v.toInt ≠ (3) := fun q => h3 (Int32.toInt_inj.mp (q.trans (by decide)))
    have q4 : v.toInt ≠ (4) := fun q => h4 (Int32.toInt_inj.mp (q.trans (by decide)))
    have q5 : v.toInt ≠ (5) := fun q => h5 (Int32.toInt_inj.mp (q.trans (by decide)))
    have q6 : v.toInt ≠ (6) := fun q => h6 (Int32.toInt_inj.mp (q.trans (by decide)))
    have q7 : v.toInt ≠ (7) := fun q => h7 (Int32.toInt_inj.mp (q.trans (by decide)))
    have q8 : v.toInt ≠ (8) := fun q => h8 (Int32.toInt_inj.mp (q.trans (by decide)))
    have q9 : v.toInt ≠ (9) := fun q => h9 (Int32.toInt_inj.mp (q.trans (by decide)))
    have q10 : v.toInt ≠ (10) := fun q => h10 (Int32.toInt_inj.mp (q.trans (by decide)))
    omega
  exact go_sw (t := 145) (S' := S) rfl rfl rfl rfl rfl rfl rfl (by show (if _ then _ else _) = _; rw [if_pos hout]; rfl)
theorem s89_8 {n : Int32} : evp sc d 89 8 L (.int n :: S) h = if ¬ n < 0 ∧ n.toNatClampNeg * 8 ≤ 536870912 then evp sc d 89 10 L (.ref (32 + h.length) :: S) (h ++ [.inl (0, n.toNatClampNeg, .inl (fun _ => 0))]) else none := st_newa rfl (show pT 89 8 = some (.newarray .int, 10, 0, 0) by decide +kernel)
theorem s89_15 {n : Int32} : evp sc d 89 15 L (.int n :: S) h = if ¬ n < 0 ∧ n.toNatClampNeg * 8 ≤ 536870912 then evp sc d 89 17 L (.ref (32 + h.length) :: S) (h ++ [.inl (0, n.toNatClampNeg, .inl (fun _ => 0))]) else none := st_newa rfl (show pT 89 15 = some (.newarray .int, 17, 0, 0) by decide +kernel)
theorem s99_37 {n : Int32} : evp sc d 99 37 L (.int n :: S) h = if ¬ n < 0 ∧ n.toNatClampNeg * 8 ≤ 536870912 then evp sc d 99 39 L (.ref (32 + h.length) :: S) (h ++ [.inl (0, n.toNatClampNeg, .inl (fun _ => 0))]) else none := st_newa rfl (show pT 99 37 = some (.newarray .int, 39, 0, 0) by decide +kernel)
theorem s99_45 {n : Int32} : evp sc d 99 45 L (.int n :: S) h = if ¬ n < 0 ∧ n.toNatClampNeg * 8 ≤ 536870912 then evp sc d 99 47 L (.ref (32 + h.length) :: S) (h ++ [.inl (0, n.toNatClampNeg, .inl (fun _ => 0))]) else none := st_newa rfl (show pT 99 45 = some (.newarray .int, 47, 0, 0) by decide +kernel)
theorem s99_53 {n : Int32} : evp sc d 99 53 L (.int n :: S) h = if ¬ n < 0 ∧ n.toNatClampNeg * 8 ≤ 536870912 then evp sc d 99 55 L (.ref (32 + h.length) :: S) (h ++ [.inl (0, n.toNatClampNeg, .inl (fun _ => 0))]) else none := st_newa rfl (show pT 99 53 = some (.newarray .int, 55, 0, 0) by decide +kernel)
theorem s99_61 {n : Int32} : evp sc d 99 61 L (.int n :: S) h = if ¬ n < 0 ∧ n.toNatClampNeg * 8 ≤ 536870912 then evp sc d 99 63 L (.ref (32 + h.length) :: S) (h ++ [.inl (0, n.toNatClampNeg, .inl (fun _ => 0))]) else none := st_newa rfl (show pT 99 61 = some (.newarray .int, 63, 0, 0) by decide +kernel)
theorem s99_69 {n : Int32} : evp sc d 99 69 L (.int n :: S) h = if ¬ n < 0 ∧ n.toNatClampNeg * 8 ≤ 536870912 then evp sc d 99 71 L (.ref (32 + h.length) :: S) (h ++ [.inl (0, n.toNatClampNeg, .inl (fun _ => 0))]) else none := st_newa rfl (show pT 99 69 = some (.newarray .int, 71, 0, 0) by decide +kernel)
theorem s99_77 {n : Int32} : evp sc d 99 77 L (.int n :: S) h = if ¬ n < 0 ∧ n.toNatClampNeg * 8 ≤ 536870912 then evp sc d 99 79 L (.ref (32 + h.length) :: S) (h ++ [.inl (0, n.toNatClampNeg, .inl (fun _ => 0))]) else none := st_newa rfl (show pT 99 77 = some (.newarray .int, 79, 0, 0) by decide +kernel)
theorem s102_1 {v : Int32} : evp sc d 102 1 L (.int v :: S) h = if v = (1 : Int32) then evp sc d 102 36 L S h else if v = (2 : Int32) then evp sc d 102 43 L S h else if v = (3 : Int32) then evp sc d 102 50 L S h else if v = (4 : Int32) then evp sc d 102 59 L S h else if v = (5 : Int32) then evp sc d 102 70 L S h else evp sc d 102 77 L S h := by
  rw [go_of (show pT 102 1 = some (.tableswitch 76 1 5 #[35, 42, 49, 58, 69], 36, 0, 0) by decide +kernel)]
  by_cases h0 : v = (1 : Int32)
  · subst h0; rw [if_pos rfl]; exact go_sw (t := 36) (S' := S) rfl rfl rfl rfl rfl rfl rfl rfl
  by_cases h1 : v = (2 : Int32)
  · subst h1; rw [if_neg (by decide), if_pos rfl]; exact go_sw (t := 43) (S' := S) rfl rfl rfl rfl rfl rfl rfl rfl
  by_cases h2 : v = (3 : Int32)
  · subst h2; rw [if_neg (by decide), if_neg (by decide), if_pos rfl]; exact go_sw (t := 50) (S' := S) rfl rfl rfl rfl rfl rfl rfl rfl
  by_cases h3 : v = (4 : Int32)
  · subst h3; rw [if_neg (by decide), if_neg (by decide), if_neg (by decide), if_pos rfl]; exact go_sw (t := 59) (S' := S) rfl rfl rfl rfl rfl rfl rfl rfl
  by_cases h4 : v = (5 : Int32)
  · subst h4; rw [if_neg (by decide), if_neg (by decide), if_neg (by decide), if_neg (by decide), if_pos rfl]; exact go_sw (t := 70) (S' := S) rfl rfl rfl rfl rfl rfl rfl rfl
  rw [if_neg h0, if_neg h1, if_neg h2, if_neg h3, if_neg h4]
  have hout : v.toInt < (1) ∨ (5) < v.toInt := by
    have q0 : v.toInt ≠ (1) := fun q => h0 (Int32.toInt_inj.mp (q.trans (by decide)))
    have q1 : v.toInt ≠ (2) := fun q => h1 (Int32.toInt_inj.mp (q.trans (by decide)))
    have q2 : v.toInt ≠ (3) := fun q => h2 (Int32.toInt_inj.mp (q.trans (by decide)))
    have q3 : v.toInt ≠ (4) := fun q => h3 (Int32.toInt_inj.mp (q.trans (by decide)))
    have q4 : v.toInt ≠ (5) := fun q => h4 (Int32.toInt_inj.mp (q.trans (by decide)))
    omega
  exact go_sw (t := 77) (S' := S) rfl rfl rfl rfl rfl rfl rfl (by show (if _ then _ else _) = _; rw [if_pos hout]; rfl)
theorem s106_8 {n : Int32} : evp sc d 106 8 L (.int n :: S) h = if ¬ n < 0 ∧ n.toNatClampNeg * 8 ≤ 536870912 then evp sc d 106 10 L (.ref (32 + h.length) :: S) (h ++ [.inl (0, n.toNatClampNeg, .inl (fun _ => 0))]) else none := st_newa rfl (show pT 106 8 = some (.newarray .int, 10, 0, 0) by decide +kernel)
theorem s106_15 {n : Int32} : evp sc d 106 15 L (.int n :: S) h = if ¬ n < 0 ∧ n.toNatClampNeg * 8 ≤ 536870912 then evp sc d 106 17 L (.ref (32 + h.length) :: S) (h ++ [.inl (0, n.toNatClampNeg, .inl (fun _ => 0))]) else none := st_newa rfl (show pT 106 15 = some (.newarray .int, 17, 0, 0) by decide +kernel)
theorem s106_23 {n : Int32} : evp sc d 106 23 L (.int n :: S) h = if ¬ n < 0 ∧ n.toNatClampNeg * 8 ≤ 536870912 then evp sc d 106 25 L (.ref (32 + h.length) :: S) (h ++ [.inl (0, n.toNatClampNeg, .inl (fun _ => 0))]) else none := st_newa rfl (show pT 106 23 = some (.newarray .int, 25, 0, 0) by decide +kernel)
theorem s106_31 {n : Int32} : evp sc d 106 31 L (.int n :: S) h = if ¬ n < 0 ∧ n.toNatClampNeg * 8 ≤ 536870912 then evp sc d 106 33 L (.ref (32 + h.length) :: S) (h ++ [.inl (0, n.toNatClampNeg, .inl (fun _ => 0))]) else none := st_newa rfl (show pT 106 31 = some (.newarray .int, 33, 0, 0) by decide +kernel)
theorem s119_28 {n : Int32} : evp sc d 119 28 L (.int n :: S) h = if ¬ n < 0 ∧ n.toNatClampNeg * 8 ≤ 536870912 then evp sc d 119 30 L (.ref (32 + h.length) :: S) (h ++ [.inl (0, n.toNatClampNeg, .inl (fun _ => 0))]) else none := st_newa rfl (show pT 119 28 = some (.newarray .int, 30, 0, 0) by decide +kernel)
theorem s121_30 {a : Nat} : evp sc d 121 30 L (.ref a :: S) h = (e_arr sc h a 0).bind (fun q => evp sc d 121 31 L (.int (Int32.ofNat q.1) :: S) h) := st_alen (show pT 121 30 = some (.arraylength, 31, 0, 0) by decide +kernel)
theorem s121_35 {a : Nat} : evp sc d 121 35 L (.ref a :: S) h = (e_arr sc h a 0).bind (fun q => evp sc d 121 36 L (.int (Int32.ofNat q.1) :: S) h) := st_alen (show pT 121 35 = some (.arraylength, 36, 0, 0) by decide +kernel)
theorem s127_72 {n : Int32} : evp sc d 127 72 L (.int n :: S) h = if ¬ n < 0 ∧ n.toNatClampNeg * 8 ≤ 536870912 then evp sc d 127 74 L (.ref (32 + h.length) :: S) (h ++ [.inl (0, n.toNatClampNeg, .inl (fun _ => 0))]) else none := st_newa rfl (show pT 127 72 = some (.newarray .int, 74, 0, 0) by decide +kernel)
theorem s133_13 {v : Int32} : evp sc d 133 13 L (.int v :: S) h = if v = (0 : Int32) then evp sc d 133 52 L S h else if v = (1 : Int32) then evp sc d 133 60 L S h else if v = (2 : Int32) then evp sc d 133 68 L S h else if v = (3 : Int32) then evp sc d 133 76 L S h else if v = (4 : Int32) then evp sc d 133 84 L S h else if v = (5 : Int32) then evp sc d 133 92 L S h else evp sc d 133 100 L S h := by
  rw [go_of (show pT 133 13 = some (.tableswitch 87 0 5 #[39, 47, 55, 63, 71, 79], 52, 0, 0) by decide +kernel)]
  by_cases h0 : v = (0 : Int32)
  · subst h0; rw [if_pos rfl]; exact go_sw (t := 52) (S' := S) rfl rfl rfl rfl rfl rfl rfl rfl
  by_cases h1 : v = (1 : Int32)
  · subst h1; rw [if_neg (by decide), if_pos rfl]; exact go_sw (t := 60) (S' := S) rfl rfl rfl rfl rfl rfl rfl rfl
  by_cases h2 : v = (2 : Int32)
  · subst h2; rw [if_neg (by decide), if_neg (by decide), if_pos rfl]; exact go_sw (t := 68) (S' := S) rfl rfl rfl rfl rfl rfl rfl rfl
  by_cases h3 : v = (3 : Int32)
  · subst h3; rw [if_neg (by decide), if_neg (by decide), if_neg (by decide), if_pos rfl]; exact go_sw (t := 76) (S' := S) rfl rfl rfl rfl rfl rfl rfl rfl
  by_cases h4 : v = (4 : Int32)
  · subst h4; rw [if_neg (by decide), if_neg (by decide), if_neg (by decide), if_neg (by decide), if_pos rfl]; exact go_sw (t := 84) (S' := S) rfl rfl rfl rfl rfl rfl rfl rfl
  by_cases h5 : v = (5 : Int32)
  · subst h5; rw [if_neg (by decide), if_neg (by decide), if_neg (by decide), if_neg (by decide), if_neg (by decide), if_pos rfl]; exact go_sw (t := 92) (S' := S) rfl rfl rfl rfl rfl rfl rfl rfl
  rw [if_neg h0, if_neg h1, if_neg h2, if_neg h3, if_neg h4, if_neg h5]
  have hout : v.toInt < (0) ∨ (5) < v.toInt := by
    have q0 : v.toInt ≠ (0) := fun q => h0 (Int32.toInt_inj.mp (q.trans (by decide)))
    have q1 : v.toInt ≠ (1) := fun q => h1 (Int32.toInt_inj.mp (q.trans (by decide)))
    have q2 : v.toInt ≠ (2) := fun q => h2 (Int32.toInt_inj.mp (q.trans (by decide)))
    have q3 : v.toInt ≠ (3) := fun q => h3 (Int32.toInt_inj.mp (q.trans (by decide)))
    have q4 : v.toInt ≠ (4) := fun q => h4 (Int32.toInt_inj.mp (q.trans (by decide)))
    have q5 : v.toInt ≠ (5) := fun q => h5 (Int32.toInt_inj.mp (q.trans (by decide)))
    omega
  exact go_sw (t := 100) (S' := S) rfl rfl rfl rfl rfl rfl rfl (by show (if _ then _ else _) = _; rw [if_pos hout]; rfl)
theorem s171_1 {v : Int32} : evp sc d 171 1 L (.int v :: S) h = if v = (0 : Int32) then evp sc d 171 40 L S h else if v = (1 : Int32) then evp sc d 171 48 L S h else if v = (2 : Int32) then evp sc d 171 56 L S h else if v = (3 : Int32) then evp sc d 171 64 L S h else if v = (4 : Int32) then evp sc d 171 75 L S h else if v = (5 : Int32) then evp sc d 171 83 L S h else evp sc d 171 94 L S h := by
  rw [go_of (show pT 171 1 = some (.tableswitch 93 0 5 #[39, 47, 55, 63, 74, 82], 40, 0, 0) by decide +kernel)]
  by_cases h0 : v = (0 : Int32)
  · subst h0; rw [if_pos rfl]; exact go_sw (t := 40) (S' := S) rfl rfl rfl rfl rfl rfl rfl rfl
  by_cases h1 : v = (1 : Int32)
  · subst h1; rw [if_neg (by decide), if_pos rfl]; exact go_sw (t := 48) (S' := S) rfl rfl rfl rfl rfl rfl rfl rfl
  by_cases h2 : v = (2 : Int32)
  · subst h2; rw [if_neg (by decide), if_neg (by decide), if_pos rfl]; exact go_sw (t := 56) (S' := S) rfl rfl rfl rfl rfl rfl rfl rfl
  by_cases h3 : v = (3 : Int32)
  · subst h3; rw [if_neg (by decide), if_neg (by decide), if_neg (by decide), if_pos rfl]; exact go_sw (t := 64) (S' := S) rfl rfl rfl rfl rfl rfl rfl rfl
  by_cases h4 : v = (4 : Int32)
  · subst h4; rw [if_neg (by decide), if_neg (by decide), if_neg (by decide), if_neg (by decide), if_pos rfl]; exact go_sw (t := 75) (S' := S) rfl rfl rfl rfl rfl rfl rfl rfl
  by_cases h5 : v = (5 : Int32)
  · subst h5; rw [if_neg (by decide), if_neg (by decide), if_neg (by decide), if_neg (by decide), if_neg (by decide), if_pos rfl]; exact go_sw (t := 83) (S' := S) rfl rfl rfl rfl rfl rfl rfl rfl
  rw [if_neg h0, if_neg h1, if_neg h2, if_neg h3, if_neg h4, if_neg h5]
  have hout : v.toInt < (0) ∨ (5) < v.toInt := by
    have q0 : v.toInt ≠ (0) := fun q => h0 (Int32.toInt_inj.mp (q.trans (by decide)))
    have q1 : v.toInt ≠ (1) := fun q => h1 (Int32.toInt_inj.mp (q.trans (by decide)))
    have q2 : v.toInt ≠ (2) := fun q => h2 (Int32.toInt_inj.mp (q.trans (by decide)))
    have q3 : v.toInt ≠ (3) := fun q => h3 (Int32.toInt_inj.mp (q.trans (by decide)))
    have q4 : v.toInt ≠ (4) := fun q => h4 (Int32.toInt_inj.mp (q.trans (by decide)))
    have q5 : v.toInt ≠ (5) := fun q => h5 (Int32.toInt_inj.mp (q.trans (by decide)))
    omega
  exact go_sw (t := 94) (S' := S) rfl rfl rfl rfl rfl rfl rfl (by show (if _ then _ else _) = _; rw [if_pos hout]; rfl)
theorem s176_8 {n : Int32} : evp sc d 176 8 L (.int n :: S) h = if ¬ n < 0 ∧ n.toNatClampNeg * 8 ≤ 536870912 then evp sc d 176 10 L (.ref (32 + h.length) :: S) (h ++ [.inl (1, n.toNatClampNeg, .inl (fun _ => 0))]) else none := st_newa rfl (show pT 176 8 = some (.newarray .byte, 10, 1, 0) by decide +kernel)
theorem s176_15 {n : Int32} : evp sc d 176 15 L (.int n :: S) h = if ¬ n < 0 ∧ n.toNatClampNeg * 8 ≤ 536870912 then evp sc d 176 17 L (.ref (32 + h.length) :: S) (h ++ [.inl (0, n.toNatClampNeg, .inl (fun _ => 0))]) else none := st_newa rfl (show pT 176 15 = some (.newarray .int, 17, 0, 0) by decide +kernel)
theorem s176_22 {n : Int32} : evp sc d 176 22 L (.int n :: S) h = if ¬ n < 0 ∧ n.toNatClampNeg * 8 ≤ 536870912 then evp sc d 176 24 L (.ref (32 + h.length) :: S) (h ++ [.inl (0, n.toNatClampNeg, .inl (fun _ => 0))]) else none := st_newa rfl (show pT 176 22 = some (.newarray .int, 24, 0, 0) by decide +kernel)
theorem s176_30 {n : Int32} : evp sc d 176 30 L (.int n :: S) h = if ¬ n < 0 ∧ n.toNatClampNeg * 8 ≤ 536870912 then evp sc d 176 32 L (.ref (32 + h.length) :: S) (h ++ [.inl (0, n.toNatClampNeg, .inl (fun _ => 0))]) else none := st_newa rfl (show pT 176 30 = some (.newarray .int, 32, 0, 0) by decide +kernel)
theorem s176_37 {n : Int32} : evp sc d 176 37 L (.int n :: S) h = if ¬ n < 0 ∧ n.toNatClampNeg * 8 ≤ 536870912 then evp sc d 176 39 L (.ref (32 + h.length) :: S) (h ++ [.inl (0, n.toNatClampNeg, .inl (fun _ => 0))]) else none := st_newa rfl (show pT 176 37 = some (.newarray .int, 39, 0, 0) by decide +kernel)
theorem s176_46 {n : Int32} : evp sc d 176 46 L (.int n :: S) h = if ¬ n < 0 ∧ n.toNatClampNeg * 8 ≤ 536870912 then evp sc d 176 48 L (.ref (32 + h.length) :: S) (h ++ [.inl (0, n.toNatClampNeg, .inl (fun _ => 0))]) else none := st_newa rfl (show pT 176 46 = some (.newarray .int, 48, 0, 0) by decide +kernel)
theorem s176_53 {n : Int32} : evp sc d 176 53 L (.int n :: S) h = if ¬ n < 0 ∧ n.toNatClampNeg * 8 ≤ 536870912 then evp sc d 176 55 L (.ref (32 + h.length) :: S) (h ++ [.inl (0, n.toNatClampNeg, .inl (fun _ => 0))]) else none := st_newa rfl (show pT 176 53 = some (.newarray .int, 55, 0, 0) by decide +kernel)
theorem s176_62 {n : Int32} : evp sc d 176 62 L (.int n :: S) h = if ¬ n < 0 ∧ n.toNatClampNeg * 8 ≤ 536870912 then evp sc d 176 64 L (.ref (32 + h.length) :: S) (h ++ [.inl (0, n.toNatClampNeg, .inl (fun _ => 0))]) else none := st_newa rfl (show pT 176 62 = some (.newarray .int, 64, 0, 0) by decide +kernel)
theorem s176_71 {n : Int32} : evp sc d 176 71 L (.int n :: S) h = if ¬ n < 0 ∧ n.toNatClampNeg * 8 ≤ 536870912 then evp sc d 176 73 L (.ref (32 + h.length) :: S) (h ++ [.inl (0, n.toNatClampNeg, .inl (fun _ => 0))]) else none := st_newa rfl (show pT 176 71 = some (.newarray .int, 73, 0, 0) by decide +kernel)
theorem s176_80 {n : Int32} : evp sc d 176 80 L (.int n :: S) h = if ¬ n < 0 ∧ n.toNatClampNeg * 8 ≤ 536870912 then evp sc d 176 82 L (.ref (32 + h.length) :: S) (h ++ [.inl (0, n.toNatClampNeg, .inl (fun _ => 0))]) else none := st_newa rfl (show pT 176 80 = some (.newarray .int, 82, 0, 0) by decide +kernel)
theorem s176_88 {n : Int32} : evp sc d 176 88 L (.int n :: S) h = if ¬ n < 0 ∧ n.toNatClampNeg * 8 ≤ 536870912 then evp sc d 176 90 L (.ref (32 + h.length) :: S) (h ++ [.inl (0, n.toNatClampNeg, .inl (fun _ => 0))]) else none := st_newa rfl (show pT 176 88 = some (.newarray .int, 90, 0, 0) by decide +kernel)
theorem s176_97 {n : Int32} : evp sc d 176 97 L (.int n :: S) h = if ¬ n < 0 ∧ n.toNatClampNeg * 8 ≤ 536870912 then evp sc d 176 99 L (.ref (32 + h.length) :: S) (h ++ [.inl (0, n.toNatClampNeg, .inl (fun _ => 0))]) else none := st_newa rfl (show pT 176 97 = some (.newarray .int, 99, 0, 0) by decide +kernel)
theorem s176_106 {n : Int32} : evp sc d 176 106 L (.int n :: S) h = if ¬ n < 0 ∧ n.toNatClampNeg * 8 ≤ 536870912 then evp sc d 176 108 L (.ref (32 + h.length) :: S) (h ++ [.inl (0, n.toNatClampNeg, .inl (fun _ => 0))]) else none := st_newa rfl (show pT 176 106 = some (.newarray .int, 108, 0, 0) by decide +kernel)
theorem s176_114 {n : Int32} : evp sc d 176 114 L (.int n :: S) h = if ¬ n < 0 ∧ n.toNatClampNeg * 8 ≤ 536870912 then evp sc d 176 116 L (.ref (32 + h.length) :: S) (h ++ [.inl (0, n.toNatClampNeg, .inl (fun _ => 0))]) else none := st_newa rfl (show pT 176 114 = some (.newarray .int, 116, 0, 0) by decide +kernel)
theorem s182_32 {a : Nat} {j v : Int32} : evp sc d 182 32 L (.int v :: .int j :: .ref a :: S) h = (e_bs h a j v).bind (fun h' => evp sc d 182 33 L S h') := st_bastore (show pT 182 32 = some (.bastore, 33, 0, 0) by decide +kernel)
theorem s193_1 {v : Int32} : evp sc d 193 1 L (.int v :: S) h = if v = (0 : Int32) then evp sc d 193 32 L S h else if v = (1 : Int32) then evp sc d 193 44 L S h else if v = (2 : Int32) then evp sc d 193 55 L S h else if v = (3 : Int32) then evp sc d 193 66 L S h else evp sc d 193 77 L S h := by
  rw [go_of (show pT 193 1 = some (.tableswitch 76 0 3 #[31, 43, 54, 65], 32, 0, 0) by decide +kernel)]
  by_cases h0 : v = (0 : Int32)
  · subst h0; rw [if_pos rfl]; exact go_sw (t := 32) (S' := S) rfl rfl rfl rfl rfl rfl rfl rfl
  by_cases h1 : v = (1 : Int32)
  · subst h1; rw [if_neg (by decide), if_pos rfl]; exact go_sw (t := 44) (S' := S) rfl rfl rfl rfl rfl rfl rfl rfl
  by_cases h2 : v = (2 : Int32)
  · subst h2; rw [if_neg (by decide), if_neg (by decide), if_pos rfl]; exact go_sw (t := 55) (S' := S) rfl rfl rfl rfl rfl rfl rfl rfl
  by_cases h3 : v = (3 : Int32)
  · subst h3; rw [if_neg (by decide), if_neg (by decide), if_neg (by decide), if_pos rfl]; exact go_sw (t := 66) (S' := S) rfl rfl rfl rfl rfl rfl rfl rfl
  rw [if_neg h0, if_neg h1, if_neg h2, if_neg h3]
  have hout : v.toInt < (0) ∨ (3) < v.toInt := by
    have q0 : v.toInt ≠ (0) := fun q => h0 (Int32.toInt_inj.mp (q.trans (by decide)))
    have q1 : v.toInt ≠ (1) := fun q => h1 (Int32.toInt_inj.mp (q.trans (by decide)))
    have q2 : v.toInt ≠ (2) := fun q => h2 (Int32.toInt_inj.mp (q.trans (by decide)))
    have q3 : v.toInt ≠ (3) := fun q => h3 (Int32.toInt_inj.mp (q.trans (by decide)))
    omega
  exact go_sw (t := 77) (S' := S) rfl rfl rfl rfl rfl rfl rfl (by show (if _ then _ else _) = _; rw [if_pos hout]; rfl)
theorem s232_10 {v : Int32} : evp sc d 232 10 L (.int v :: S) h = if v = (0 : Int32) then evp sc d 232 52 L S h else if v = (1 : Int32) then evp sc d 232 65 L S h else if v = (2 : Int32) then evp sc d 232 100 L S h else if v = (3 : Int32) then evp sc d 232 130 L S h else if v = (4 : Int32) then evp sc d 232 160 L S h else if v = (5 : Int32) then evp sc d 232 185 L S h else if v = (6 : Int32) then evp sc d 232 174 L S h else evp sc d 232 185 L S h := by
  rw [go_of (show pT 232 10 = some (.tableswitch 175 0 6 #[42, 55, 90, 120, 150, 175, 164], 52, 0, 0) by decide +kernel)]
  by_cases h0 : v = (0 : Int32)
  · subst h0; rw [if_pos rfl]; exact go_sw (t := 52) (S' := S) rfl rfl rfl rfl rfl rfl rfl rfl
  by_cases h1 : v = (1 : Int32)
  · subst h1; rw [if_neg (by decide), if_pos rfl]; exact go_sw (t := 65) (S' := S) rfl rfl rfl rfl rfl rfl rfl rfl
  by_cases h2 : v = (2 : Int32)
  · subst h2; rw [if_neg (by decide), if_neg (by decide), if_pos rfl]; exact go_sw (t := 100) (S' := S) rfl rfl rfl rfl rfl rfl rfl rfl
  by_cases h3 : v = (3 : Int32)
  · subst h3; rw [if_neg (by decide), if_neg (by decide), if_neg (by decide), if_pos rfl]; exact go_sw (t := 130) (S' := S) rfl rfl rfl rfl rfl rfl rfl rfl
  by_cases h4 : v = (4 : Int32)
  · subst h4; rw [if_neg (by decide), if_neg (by decide), if_neg (by decide), if_neg (by decide), if_pos rfl]; exact go_sw (t := 160) (S' := S) rfl rfl rfl rfl rfl rfl rfl rfl
  by_cases h5 : v = (5 : Int32)
  · subst h5; rw [if_neg (by decide), if_neg (by decide), if_neg (by decide), if_neg (by decide), if_neg (by decide), if_pos rfl]; exact go_sw (t := 185) (S' := S) rfl rfl rfl rfl rfl rfl rfl rfl
  by_cases h6 : v = (6 : Int32)
  · subst h6; rw [if_neg (by decide), if_neg (by decide), if_neg (by decide), if_neg (by decide), if_neg (by decide), if_neg (by decide), if_pos rfl]; exact go_sw (t := 174) (S' := S) rfl rfl rfl rfl rfl rfl rfl rfl
  rw [if_neg h0, if_neg h1, if_neg h2, if_neg h3, if_neg h4, if_neg h5, if_neg h6]
  have hout : v.toInt < (0) ∨ (6) < v.toInt := by
    have q0 : v.toInt ≠ (0) := fun q => h0 (Int32.toInt_inj.mp (q.trans (by decide)))
    have q1 : v.toInt ≠ (1) := fun q => h1 (Int32.toInt_inj.mp (q.trans (by decide)))
    have q2 : v.toInt ≠ (2) := fun q => h2 (Int32.toInt_inj.mp (q.trans (by decide)))
    have q3 : v.toInt ≠ (3) := fun q => h3 (Int32.toInt_inj.mp (q.trans (by decide)))
    have q4 : v.toInt ≠ (4) := fun q => h4 (Int32.toInt_inj.mp (q.trans (by decide)))
    have q5 : v.toInt ≠ (5) := fun q => h5 (Int32.toInt_inj.mp (q.trans (by decide)))
    have q6 : v.toInt ≠ (6) := fun q => h6 (Int32.toInt_inj.mp (q.trans (by decide)))
    omega
  exact go_sw (t := 185) (S' := S) rfl rfl rfl rfl rfl rfl rfl (by show (if _ then _ else _) = _; rw [if_pos hout]; rfl)
theorem s236_1 {v : Int32} : evp sc d 236 1 L (.int v :: S) h = if v = (0 : Int32) then evp sc d 236 44 L S h else if v = (1 : Int32) then evp sc d 236 59 L S h else if v = (2 : Int32) then evp sc d 236 76 L S h else if v = (3 : Int32) then evp sc d 236 125 L S h else if v = (4 : Int32) then evp sc d 236 150 L S h else if v = (5 : Int32) then evp sc d 236 190 L S h else if v = (6 : Int32) then evp sc d 236 177 L S h else evp sc d 236 190 L S h := by
  rw [go_of (show pT 236 1 = some (.tableswitch 189 0 6 #[43, 58, 75, 124, 149, 189, 176], 44, 0, 0) by decide +kernel)]
  by_cases h0 : v = (0 : Int32)
  · subst h0; rw [if_pos rfl]; exact go_sw (t := 44) (S' := S) rfl rfl rfl rfl rfl rfl rfl rfl
  by_cases h1 : v = (1 : Int32)
  · subst h1; rw [if_neg (by decide), if_pos rfl]; exact go_sw (t := 59) (S' := S) rfl rfl rfl rfl rfl rfl rfl rfl
  by_cases h2 : v = (2 : Int32)
  · subst h2; rw [if_neg (by decide), if_neg (by decide), if_pos rfl]; exact go_sw (t := 76) (S' := S) rfl rfl rfl rfl rfl rfl rfl rfl
  by_cases h3 : v = (3 : Int32)
  · subst h3; rw [if_neg (by decide), if_neg (by decide), if_neg (by decide), if_pos rfl]; exact go_sw (t := 125) (S' := S) rfl rfl rfl rfl rfl rfl rfl rfl
  by_cases h4 : v = (4 : Int32)
  · subst h4; rw [if_neg (by decide), if_neg (by decide), if_neg (by decide), if_neg (by decide), if_pos rfl]; exact go_sw (t := 150) (S' := S) rfl rfl rfl rfl rfl rfl rfl rfl
  by_cases h5 : v = (5 : Int32)
  · subst h5; rw [if_neg (by decide), if_neg (by decide), if_neg (by decide), if_neg (by decide), if_neg (by decide), if_pos rfl]; exact go_sw (t := 190) (S' := S) rfl rfl rfl rfl rfl rfl rfl rfl
  by_cases h6 : v = (6 : Int32)
  · subst h6; rw [if_neg (by decide), if_neg (by decide), if_neg (by decide), if_neg (by decide), if_neg (by decide), if_neg (by decide), if_pos rfl]; exact go_sw (t := 177) (S' := S) rfl rfl rfl rfl rfl rfl rfl rfl
  rw [if_neg h0, if_neg h1, if_neg h2, if_neg h3, if_neg h4, if_neg h5, if_neg h6]
  have hout : v.toInt < (0) ∨ (6) < v.toInt := by
    have q0 : v.toInt ≠ (0) := fun q => h0 (Int32.toInt_inj.mp (q.trans (by decide)))
    have q1 : v.toInt ≠ (1) := fun q => h1 (Int32.toInt_inj.mp (q.trans (by decide)))
    have q2 : v.toInt ≠ (2) := fun q => h2 (Int32.toInt_inj.mp (q.trans (by decide)))
    have q3 : v.toInt ≠ (3) := fun q => h3 (Int32.toInt_inj.mp (q.trans (by decide)))
    have q4 : v.toInt ≠ (4) := fun q => h4 (Int32.toInt_inj.mp (q.trans (by decide)))
    have q5 : v.toInt ≠ (5) := fun q => h5 (Int32.toInt_inj.mp (q.trans (by decide)))
    have q6 : v.toInt ≠ (6) := fun q => h6 (Int32.toInt_inj.mp (q.trans (by decide)))
    omega
  exact go_sw (t := 190) (S' := S) rfl rfl rfl rfl rfl rfl rfl (by show (if _ then _ else _) = _; rw [if_pos hout]; rfl)
theorem s262_28 {v : Int32} : evp sc d 262 28 L (.int v :: S) h = if v = (0 : Int32) then evp sc d 262 68 L S h else if v = (1 : Int32) then evp sc d 262 77 L S h else if v = (2 : Int32) then evp sc d 262 88 L S h else if v = (3 : Int32) then evp sc d 262 110 L S h else if v = (4 : Int32) then evp sc d 262 110 L S h else if v = (5 : Int32) then evp sc d 262 99 L S h else evp sc d 262 110 L S h := by
  rw [go_of (show pT 262 28 = some (.tableswitch 82 0 5 #[40, 49, 60, 82, 82, 71], 68, 0, 0) by decide +kernel)]
  by_cases h0 : v = (0 : Int32)
  · subst h0; rw [if_pos rfl]; exact go_sw (t := 68) (S' := S) rfl rfl rfl rfl rfl rfl rfl rfl
  by_cases h1 : v = (1 : Int32)
  · subst h1; rw [if_neg (by decide), if_pos rfl]; exact go_sw (t := 77) (S' := S) rfl rfl rfl rfl rfl rfl rfl rfl
  by_cases h2 : v = (2 : Int32)
  · subst h2; rw [if_neg (by decide), if_neg (by decide), if_pos rfl]; exact go_sw (t := 88) (S' := S) rfl rfl rfl rfl rfl rfl rfl rfl
  by_cases h3 : v = (3 : Int32)
  · subst h3; rw [if_neg (by decide), if_neg (by decide), if_neg (by decide), if_pos rfl]; exact go_sw (t := 110) (S' := S) rfl rfl rfl rfl rfl rfl rfl rfl
  by_cases h4 : v = (4 : Int32)
  · subst h4; rw [if_neg (by decide), if_neg (by decide), if_neg (by decide), if_neg (by decide), if_pos rfl]; exact go_sw (t := 110) (S' := S) rfl rfl rfl rfl rfl rfl rfl rfl
  by_cases h5 : v = (5 : Int32)
  · subst h5; rw [if_neg (by decide), if_neg (by decide), if_neg (by decide), if_neg (by decide), if_neg (by decide), if_pos rfl]; exact go_sw (t := 99) (S' := S) rfl rfl rfl rfl rfl rfl rfl rfl
  rw [if_neg h0, if_neg h1, if_neg h2, if_neg h3, if_neg h4, if_neg h5]
  have hout : v.toInt < (0) ∨ (5) < v.toInt := by
    have q0 : v.toInt ≠ (0) := fun q => h0 (Int32.toInt_inj.mp (q.trans (by decide)))
    have q1 : v.toInt ≠ (1) := fun q => h1 (Int32.toInt_inj.mp (q.trans (by decide)))
    have q2 : v.toInt ≠ (2) := fun q => h2 (Int32.toInt_inj.mp (q.trans (by decide)))
    have q3 : v.toInt ≠ (3) := fun q => h3 (Int32.toInt_inj.mp (q.trans (by decide)))
    have q4 : v.toInt ≠ (4) := fun q => h4 (Int32.toInt_inj.mp (q.trans (by decide)))
    have q5 : v.toInt ≠ (5) := fun q => h5 (Int32.toInt_inj.mp (q.trans (by decide)))
    omega
  exact go_sw (t := 110) (S' := S) rfl rfl rfl rfl rfl rfl rfl (by show (if _ then _ else _) = _; rw [if_pos hout]; rfl)
theorem s293_17 {v : Int32} : evp sc d 293 17 L (.int v :: S) h = if v = (0 : Int32) then evp sc d 293 76 L S h else if v = (1 : Int32) then evp sc d 293 85 L S h else if v = (2 : Int32) then evp sc d 293 94 L S h else if v = (3 : Int32) then evp sc d 293 99 L S h else if v = (4 : Int32) then evp sc d 293 108 L S h else if v = (5 : Int32) then evp sc d 293 117 L S h else if v = (6 : Int32) then evp sc d 293 126 L S h else if v = (7 : Int32) then evp sc d 293 135 L S h else if v = (8 : Int32) then evp sc d 293 140 L S h else if v = (9 : Int32) then evp sc d 293 146 L S h else if v = (10 : Int32) then evp sc d 293 152 L S h else evp sc d 293 161 L S h := by
  rw [go_of (show pT 293 17 = some (.tableswitch 144 0 10 #[59, 68, 77, 82, 91, 100, 109, 118, 123, 129, 135], 76, 0, 0) by decide +kernel)]
  by_cases h0 : v = (0 : Int32)
  · subst h0; rw [if_pos rfl]; exact go_sw (t := 76) (S' := S) rfl rfl rfl rfl rfl rfl rfl rfl
  by_cases h1 : v = (1 : Int32)
  · subst h1; rw [if_neg (by decide), if_pos rfl]; exact go_sw (t := 85) (S' := S) rfl rfl rfl rfl rfl rfl rfl rfl
  by_cases h2 : v = (2 : Int32)
  · subst h2; rw [if_neg (by decide), if_neg (by decide), if_pos rfl]; exact go_sw (t := 94) (S' := S) rfl rfl rfl rfl rfl rfl rfl rfl
  by_cases h3 : v = (3 : Int32)
  · subst h3; rw [if_neg (by decide), if_neg (by decide), if_neg (by decide), if_pos rfl]; exact go_sw (t := 99) (S' := S) rfl rfl rfl rfl rfl rfl rfl rfl
  by_cases h4 : v = (4 : Int32)
  · subst h4; rw [if_neg (by decide), if_neg (by decide), if_neg (by decide), if_neg (by decide), if_pos rfl]; exact go_sw (t := 108) (S' := S) rfl rfl rfl rfl rfl rfl rfl rfl
  by_cases h5 : v = (5 : Int32)
  · subst h5; rw [if_neg (by decide), if_neg (by decide), if_neg (by decide), if_neg (by decide), if_neg (by decide), if_pos rfl]; exact go_sw (t := 117) (S' := S) rfl rfl rfl rfl rfl rfl rfl rfl
  by_cases h6 : v = (6 : Int32)
  · subst h6; rw [if_neg (by decide), if_neg (by decide), if_neg (by decide), if_neg (by decide), if_neg (by decide), if_neg (by decide), if_pos rfl]; exact go_sw (t := 126) (S' := S) rfl rfl rfl rfl rfl rfl rfl rfl
  by_cases h7 : v = (7 : Int32)
  · subst h7; rw [if_neg (by decide), if_neg (by decide), if_neg (by decide), if_neg (by decide), if_neg (by decide), if_neg (by decide), if_neg (by decide), if_pos rfl]; exact go_sw (t := 135) (S' := S) rfl rfl rfl rfl rfl rfl rfl rfl
  by_cases h8 : v = (8 : Int32)
  · subst h8; rw [if_neg (by decide), if_neg (by decide), if_neg (by decide), if_neg (by decide), if_neg (by decide), if_neg (by decide), if_neg (by decide), if_neg (by decide), if_pos rfl]; exact go_sw (t := 140) (S' := S) rfl rfl rfl rfl rfl rfl rfl rfl
  by_cases h9 : v = (9 : Int32)
  · subst h9; rw [if_neg (by decide), if_neg (by decide), if_neg (by decide), if_neg (by decide), if_neg (by decide), if_neg (by decide), if_neg (by decide), if_neg (by decide), if_neg (by decide), if_pos rfl]; exact go_sw (t := 146) (S' := S) rfl rfl rfl rfl rfl rfl rfl rfl
  by_cases h10 : v = (10 : Int32)
  · subst h10; rw [if_neg (by decide), if_neg (by decide), if_neg (by decide), if_neg (by decide), if_neg (by decide), if_neg (by decide), if_neg (by decide), if_neg (by decide), if_neg (by decide), if_neg (by decide), if_pos rfl]; exact go_sw (t := 152) (S' := S) rfl rfl rfl rfl rfl rfl rfl rfl
  rw [if_neg h0, if_neg h1, if_neg h2, if_neg h3, if_neg h4, if_neg h5, if_neg h6, if_neg h7, if_neg h8, if_neg h9, if_neg h10]
  have hout : v.toInt < (0) ∨ (10) < v.toInt := by
    have q0 : v.toInt ≠ (0) := fun q => h0 (Int32.toInt_inj.mp (q.trans (by decide)))
    have q1 : v.toInt ≠ (1) := fun q => h1 (Int32.toInt_inj.mp (q.trans (by decide)))
    have q2 : v.toInt ≠ (2) := fun q => h2 (Int32.toInt_inj.mp (q.trans (by decide)))
    have q3 : v.toInt ≠ (3) := fun q => h3 (Int32.toInt_inj.mp (q.trans (by decide)))
    have q4 : v.toInt ≠ (4) := fun q => h4 (Int32.toInt_inj.mp (q.trans (by decide)))
    have q5 : v.toInt ≠ (5) := fun q => h5 (Int32.toInt_inj.mp (q.trans (by decide)))
    have q6 : v.toInt ≠ (6) := fun q => h6 (Int32.toInt_inj.mp (q.trans (by decide)))
    have q7 : v.toInt ≠ (7) := fun q => h7 (Int32.toInt_inj.mp (q.trans (by decide)))
    have q8 : v.toInt ≠ (8) := fun q => h8 (Int32.toInt_inj.mp (q.trans (by decide)))
    have q9 : v.toInt ≠ (9) := fun q => h9 (Int32.toInt_inj.mp (q.trans (by decide)))
    have q10 : v.toInt ≠ (10) := fun q => h10 (Int32.toInt_inj.mp (q.trans (by decide)))
    omega
  exact go_sw (t := 161) (S' := S) rfl rfl rfl rfl rfl rfl rfl (by show (if _ then _ else _) = _; rw [if_pos hout]; rfl)
theorem s294_6 {v : Int32} : evp sc d 294 6 L (.int v :: S) h = if v = (0 : Int32) then evp sc d 294 44 L S h else if v = (1 : Int32) then evp sc d 294 49 L S h else if v = (2 : Int32) then evp sc d 294 54 L S h else if v = (3 : Int32) then evp sc d 294 59 L S h else if v = (4 : Int32) then evp sc d 294 68 L S h else if v = (5 : Int32) then evp sc d 294 73 L S h else evp sc d 294 82 L S h := by
  rw [go_of (show pT 294 6 = some (.tableswitch 76 0 5 #[38, 43, 48, 53, 62, 67], 44, 0, 0) by decide +kernel)]
  by_cases h0 : v = (0 : Int32)
  · subst h0; rw [if_pos rfl]; exact go_sw (t := 44) (S' := S) rfl rfl rfl rfl rfl rfl rfl rfl
  by_cases h1 : v = (1 : Int32)
  · subst h1; rw [if_neg (by decide), if_pos rfl]; exact go_sw (t := 49) (S' := S) rfl rfl rfl rfl rfl rfl rfl rfl
  by_cases h2 : v = (2 : Int32)
  · subst h2; rw [if_neg (by decide), if_neg (by decide), if_pos rfl]; exact go_sw (t := 54) (S' := S) rfl rfl rfl rfl rfl rfl rfl rfl
  by_cases h3 : v = (3 : Int32)
  · subst h3; rw [if_neg (by decide), if_neg (by decide), if_neg (by decide), if_pos rfl]; exact go_sw (t := 59) (S' := S) rfl rfl rfl rfl rfl rfl rfl rfl
  by_cases h4 : v = (4 : Int32)
  · subst h4; rw [if_neg (by decide), if_neg (by decide), if_neg (by decide), if_neg (by decide), if_pos rfl]; exact go_sw (t := 68) (S' := S) rfl rfl rfl rfl rfl rfl rfl rfl
  by_cases h5 : v = (5 : Int32)
  · subst h5; rw [if_neg (by decide), if_neg (by decide), if_neg (by decide), if_neg (by decide), if_neg (by decide), if_pos rfl]; exact go_sw (t := 73) (S' := S) rfl rfl rfl rfl rfl rfl rfl rfl
  rw [if_neg h0, if_neg h1, if_neg h2, if_neg h3, if_neg h4, if_neg h5]
  have hout : v.toInt < (0) ∨ (5) < v.toInt := by
    have q0 : v.toInt ≠ (0) := fun q => h0 (Int32.toInt_inj.mp (q.trans (by decide)))
    have q1 : v.toInt ≠ (1) := fun q => h1 (Int32.toInt_inj.mp (q.trans (by decide)))
    have q2 : v.toInt ≠ (2) := fun q => h2 (Int32.toInt_inj.mp (q.trans (by decide)))
    have q3 : v.toInt ≠ (3) := fun q => h3 (Int32.toInt_inj.mp (q.trans (by decide)))
    have q4 : v.toInt ≠ (4) := fun q => h4 (Int32.toInt_inj.mp (q.trans (by decide)))
    have q5 : v.toInt ≠ (5) := fun q => h5 (Int32.toInt_inj.mp (q.trans (by decide)))
    omega
  exact go_sw (t := 82) (S' := S) rfl rfl rfl rfl rfl rfl rfl (by show (if _ then _ else _) = _; rw [if_pos hout]; rfl)
end
