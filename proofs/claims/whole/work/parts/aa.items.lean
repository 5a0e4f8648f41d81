/-! ITEMS: letters and their numbers -/
def ix : List Nat → Nat → Option Nat
  | [], _ => none
  | u :: l, c => if u = c then some 0 else (ix l c).map (fun i => i + 1)
def ixr (ls : List Nat) : List Nat → Option Nat
  | [] => none
  | c :: _ => ix ls c
theorem ix_lt : ∀ {ls : List Nat} {c i : Nat}, ix ls c = some i → i < ls.length
  | [], _, _, h => by cases h
  | u :: l, c, i, h => by
    have h : (if u = c then some 0 else (ix l c).map (fun i => i + 1)) = some i := h
    rw [List.length_cons]
    split at h
    · have : 0 = i := Option.some.inj h
      omega
    · cases e : ix l c with
      | none => rw [e] at h; cases h
      | some j =>
        rw [e] at h
        have : j + 1 = i := Option.some.inj h
        have := ix_lt e
        omega
theorem fx {c : Nat} (hc : c < 256) : ∀ {ls : List Nat}, (∀ u, u ∈ ls → u < 256) → (ls.map nI).findIdx? (fun u => u == nI c) = ix ls c
  | [], _ => rfl
  | u :: l, h => by
    have hu := h u (List.mem_cons_self ..)
    rw [List.map_cons, List.findIdx?_cons, fx hc (fun y hy => h y (List.mem_cons_of_mem _ hy))]
    show _ = if u = c then some 0 else (ix l c).map (fun i => i + 1)
    by_cases q : u = c
    · rw [if_pos q, if_pos (by rw [q]; exact beq_self_eq_true _)]
    · rw [if_neg q, if_neg (fun z => q ((nI_eq (by omega) (by omega)).mp (eq_of_beq z)))]
theorem i2c8 : ∀ c, c < 256 → ((nI c).toUInt32 % 65536).toInt32 = nI c := by decide +kernel
theorem i1004 {sc : aS} {k : Nat} {h : aH} : e_int sc 1004 [.ref k] h = (e_txt k).map (fun t => (some (.int (Int32.ofNat t.length)), h)) := rfl
theorem i1006 {sc : aS} {k : Nat} {h : aH} {ls : List Nat} {c : Nat} (ht : e_txt k = some (ls.map nI)) (hl : ∀ u, u ∈ ls → u < 256) (hc : c < 256) : e_int sc 1006 [.ref k, .int (nI c)] h = some (some (.int (oI (ix ls c))), h) := by
  have e : e_int sc 1006 [.ref k, .int (nI c)] h = (match e_txt k with
    | some t => if 0 ≤ nI c ∧ nI c < 256 then some (some (.int (match t.findIdx? (fun u => u == nI c) with
      | some j => Int32.ofNat j
      | none => -1)), h) else none
    | none => none) := rfl
  rw [e, ht]
  show (if 0 ≤ nI c ∧ nI c < 256 then _ else none) = _
  rw [if_pos ⟨Int32.not_lt.mp (nI_pos (by omega)), by rw [show (256 : Int32) = nI 256 from rfl, nI_ltE (by omega) (by decide)]; exact hc⟩, fx hc hl]
  cases ix ls c <;> rfl
theorem i1005 {sc : aS} {k : Nat} {h : aH} {ls : List Nat} {j u : Nat} (ht : e_txt k = some (ls.map nI)) (hj : ls[j]? = some u) (hl : ls.length < 2 ^ 31) : e_int sc 1005 [.ref k, .int (nI j)] h = some (some (.int (nI u)), h) := by
  have hjl := (List.getElem?_eq_some_iff.mp hj).1
  have e : e_int sc 1005 [.ref k, .int (nI j)] h = (match e_txt k with
    | some t => if ¬ (nI j < 0 ∨ t.length ≤ (nI j).toNatClampNeg) then some (some (.int (t.getD (nI j).toNatClampNeg 0)), h) else none
    | none => none) := rfl
  rw [e, ht]
  show (if ¬ (nI j < 0 ∨ (ls.map nI).length ≤ (nI j).toNatClampNeg) then _ else none) = _
  rw [cl_nI hjl hl, if_pos (fun z => z.elim (nI_pos (by omega)) (by rw [List.length_map]; omega)), List.getD_eq_getElem?_getD, List.getElem?_map, hj]
  rfl
/-! the pure reader -/
def itP (T ls : List Nat) (lo hi : Nat → Nat) (b : Nat) : Nat → Nat → (Nat → Int32) → List Nat → Except Nat ((Nat → Int32) × List Nat)
  | 0, _, g, r => .ok (g, r)
  | k + 1, s, g, r => match ixr ls (sk r) with
    | none => .ok (g, sk r)
    | some i => if s.testBit i = true then .error (po T (sk r)) else
      if nok 3 (sk r).tail = true then
        (if lo i ≤ nv 3 (sk r).tail ∧ nv 3 (sk r).tail ≤ hi i then itP T ls lo hi b k (s ||| 2 ^ i) (up g (b + i) (nI (nv 3 (sk r).tail))) (nr 3 (sk r).tail) else .error (po T (nr 3 (sk r).tail) - 1))
      else .error (po T (nr 3 (sk r).tail))
def un (n s : Nat) : Nat := ((List.range n).filter (fun i => !s.testBit i)).length
theorem un_s : ∀ n, n < 6 → ∀ s, s < 2 ^ n → ∀ i, i < n → s.testBit i = false → un n (s ||| 2 ^ i) < un n s ∧ (s ||| 2 ^ i) < 2 ^ n := by decide +kernel
theorem tb_c : ∀ s, s < 32 → ∀ i, i < 5 → ((nI s >>> (nI i &&& 31)) &&& 1 = 0) = (s.testBit i = false) := by
  have h : ∀ s, s < 32 → ∀ i, i < 5 → (((nI s >>> (nI i &&& 31)) &&& 1 = 0) ↔ (s.testBit i = false)) := by decide +kernel
  exact fun s hs i hi => propext (h s hs i hi)
theorem tb_o : ∀ s, s < 32 → ∀ i, i < 5 → nI s ||| (1 <<< (nI i &&& 31)) = nI (s ||| 2 ^ i) := by decide +kernel
def sep : List Nat → Bool
  | [] => true
  | c :: _ => decide (c = 59)
theorem CTp.mR {M : aM} {T : List Nat} {A : Nat} {g : Nat → Int32} (h : CTp M T) (hA : ¬ A = 34) : CTp (mR M A g) T := by
  obtain ⟨h1, h2, h3⟩ := h
  exact ⟨h1, h2, fun i c hc => by rw [mR_o (fun z => hA z.symm)]; exact h3 i c hc⟩
theorem RTp.mR {W : aM} {T : List Nat} {A : Nat} {g : Nat → Int32} (h : RTp W T) (hA : ¬ A = 1) : RTp (mR W A g) T := by
  obtain ⟨h1, h2, h3⟩ := h
  exact ⟨h1, h2, fun i c hc => by rw [mR_o (fun z => hA z.symm)]; exact h3 i c hc⟩
def CIt (E : aR) (sh : List sE) (M : aM) (A c : Nat) (T : List Nat) (q : Except Nat ((Nat → Int32) × List Nat)) : Prop := match q with
  | .error p => ∃ g' v', E = some (some (.int 0), mk sh (pS (mR M A g') p v' c))
  | .ok q => ∃ v', E = some (some (.int (if sep q.2 = true then 1 else 0)), mk sh (pS (mR M A q.1) (po T q.2) v' c))
section
variable {sc : aS} {d : Nat} {sh : List sE} {M W : aM} {a : Nat} {T r : List Nat} {v u f : Int32} {c t : Nat}
set_option maxRecDepth 20000 in
theorem T_items_loop (h33 : shp sh 33 = some (.inl (9, [37, 38, 39, 40, 0, 0, 0, 0]))) (h34 : shp sh 34 = some (.inr (.inl (0, 240)))) (hT : CTp M T) {A la b k le mo : Nat} {ls : List Nat} {lo hi : Nat → Nat} (hA : shp sh A = some (.inr (.inl (0, la)))) (hA34 : ¬ A = 34) (hla : la < 2 ^ 31) (hbl : b + ls.length ≤ la) (hls : ls.length < 6) (ht : e_txt k = some (ls.map nI)) (hl : ∀ u, u ∈ ls → u < 256) (h59 : ix ls 59 = none) (hle : ∀ (h : aH) i, i < ls.length → e_ia sc h le 0 (nI i) = some (nI (lo i))) (hmo : ∀ (h : aH) i, i < ls.length → e_ia sc h mo 0 (nI i) = some (nI (hi i))) (hlo : ∀ i, i < ls.length → lo i < 1000 ∧ hi i < 1000) : ∀ (n s j : Nat) (g : Nat → Int32) (r : List Nat) (v : Int32) (L : aL), s < 2 ^ ls.length → un ls.length s < n → j + n = ls.length + 1 → Sx T r → e_n2 L → e_ld L 0 = some (.ref 33) → e_ld L 1 = some (.ref k) → e_ld L 2 = some (.ref le) → e_ld L 3 = some (.ref mo) → e_ld L 4 = some (.ref A) → e_ld L 5 = some (.int (nI b)) → e_ld L 6 = some (.int (nI s)) → e_ld L 7 = some (.int (nI j)) → CIt (evp sc (d + 8 + 1) 112 6 L [] (mk sh (pS (mR M A g) (po T r) v c))) sh M A c T (itP T ls lo hi b n s g r)
  | 0, s, j, g, r, v, L, hs, hu, hj, hr, hN, h0, h1, h2, h3, h4, h5, h6, h7 => by omega
  | n + 1, s, j, g, r, v, L, hs, hu, hj, hr, hN, h0, h1, h2, h3, h4, h5, h6, h7 => by
    have hT' : CTp (mR M A g) T := hT.mR hA34
    have c1 : (Int32.ofNat (ls.map nI).length < nI j) = False := eq_false (by
      rw [List.length_map]
      show ¬ nI ls.length < nI j
      rw [nI_ltE (by omega) (by omega)]
      omega)
    have ts := T_sign (sc := sc) (d := d + 8) (v := v) (c := c) h33 h34 hT' r hr
    have hrs := hr.skp
    cases hsk : sk r with
    | nil =>
      have e : itP T ls lo hi b (n + 1) s g r = .ok (g, []) := by
        show (match ixr ls (sk r) with | none => _ | some i => _) = _
        rw [hsk]
        rfl
      rw [e]
      rw [hsk] at ts hrs
      refine ⟨v, ?_⟩
      rw [s112_6]
      simp (maxDischargeDepth := 9) only [s112_8, s112_9, s112_12, s112_15, s112_16, s112_19, s112_21, s112_22, s112_25, s112_26, s112_29, s112_39, s112_40, nl_sti, nl_str, nl_ci, nl_cr, nl_nil, ld_cons, ld_st, lr_some, li_some, lj_some, n2_nl, n2_ci, n2_cr, n2_nil, n2_sti, n2_str, tl_some, tl_none, cat_le, List.length_cons, List.length_nil, Option.bind_some, Option.bind_none, Option.map_some, cond_true, cond_false, Bool.and_true, Bool.true_and, reduceIte, Nat.reduceEqDiff, Nat.reduceAdd, Nat.reduceLeDiff, Nat.zero_add, Nat.zero_le, Nat.zero_ne_one, Nat.one_ne_zero, Nat.reduceLT, true_or, or_true, false_or, or_false, false_and, true_and, and_false, and_true, not_false_eq_true, not_true_eq_false, eq_self, mA_A, mA_I, mI_A, mI_I, b01, b10, b01n, b10n, i10, i01, im0, ei_max, ei_min, ei_obj, n30, n20, b011, b101, orn, nor, dneg, dnle, dne, dcl, cat0, cat1, cat2, cat3, cat4, Tp_c h33, Tp_g4 h33, Tp_g5 h33, pS_4, pS_5, hT'.1, hN, h0, h1, h2, h3, h4, h5, h6, h7, i1004, ht, c1, ts, hd0, po_ge hrs hT.2.1]
      rfl
    | cons x r2 =>
      rw [hsk] at ts hrs
      obtain ⟨-, hx0, hx⟩ := hT.2.2 _ _ hrs.get
      have c2 := po_lt hrs hT.2.1
      by_cases q59 : x = 59
      · have e : itP T ls lo hi b (n + 1) s g r = .ok (g, x :: r2) := by
          show (match ixr ls (sk r) with | none => _ | some i => _) = _
          rw [hsk, show ixr ls (x :: r2) = none by show ix ls x = none; rw [q59]; exact h59]
        rw [e]
        refine ⟨v, ?_⟩
        have c3 : (nI x = 59) = True := eq_true (by rw [q59]; rfl)
        have cs : sep (x :: r2) = true := decide_eq_true q59
        show _ = some (some (Value.int (if sep (x :: r2) = true then 1 else 0)), _)
        rw [if_pos cs, s112_6]
        simp (maxDischargeDepth := 9) only [s112_8, s112_9, s112_12, s112_15, s112_16, s112_19, s112_21, s112_22, s112_25, s112_26, s112_29, s112_32, s112_34, s112_36, s112_39, s112_40, nl_sti, nl_str, nl_ci, nl_cr, nl_nil, ld_cons, ld_st, lr_some, li_some, lj_some, n2_nl, n2_ci, n2_cr, n2_nil, n2_sti, n2_str, tl_some, tl_none, cat_le, List.length_cons, List.length_nil, Option.bind_some, Option.bind_none, Option.map_some, cond_true, cond_false, Bool.and_true, Bool.true_and, reduceIte, Nat.reduceEqDiff, Nat.reduceAdd, Nat.reduceLeDiff, Nat.zero_add, Nat.zero_le, Nat.zero_ne_one, Nat.one_ne_zero, Nat.reduceLT, true_or, or_true, false_or, or_false, false_and, true_and, and_false, and_true, not_false_eq_true, not_true_eq_false, eq_self, mA_A, mA_I, mI_A, mI_I, b01, b10, b01n, b10n, i10, i01, im0, ei_max, ei_min, ei_obj, n30, n20, b011, b101, orn, nor, dneg, dnle, dne, dcl, cat0, cat1, cat2, cat3, cat4, Tp_c h33, Tp_g4 h33, Tp_g5 h33, pS_4, pS_5, hT'.1, hN, h0, h1, h2, h3, h4, h5, h6, h7, i1004, ht, c1, ts, hd0, c2, c3]
      · have c3 : (nI x = 59) = False := eq_false (fun z => q59 ((nI_eq (b := 59) (by omega) (by decide)).mp z))
        have tx := i1006 (sc := sc) (h := mk sh (pS (mR M A g) (po T (x :: r2)) v c)) ht hl hx
        cases hi' : ix ls x with
        | none =>
          have e : itP T ls lo hi b (n + 1) s g r = .ok (g, x :: r2) := by
            show (match ixr ls (sk r) with | none => _ | some i => _) = _
            rw [hsk, show ixr ls (x :: r2) = none from hi']
          rw [e]
          refine ⟨v, ?_⟩
          rw [hi'] at tx
          have cn : ((-1 : Int32) < 0) = True := by decide
          have cs : ¬ sep (x :: r2) = true := fun z => q59 (of_decide_eq_true z)
          show _ = some (some (Value.int (if sep (x :: r2) = true then 1 else 0)), _)
          rw [if_neg cs, s112_6]
          simp (maxDischargeDepth := 9) only [s112_8, s112_9, s112_12, s112_15, s112_16, s112_19, s112_21, s112_22, s112_25, s112_26, s112_29, s112_32, s112_34, s112_36, s112_41, s112_42, s112_44, s112_45, s112_48, s112_50, s112_52, s112_65, s112_66, nl_sti, nl_str, nl_ci, nl_cr, nl_nil, ld_cons, ld_st, lr_some, li_some, lj_some, n2_nl, n2_ci, n2_cr, n2_nil, n2_sti, n2_str, tl_some, tl_none, cat_le, List.length_cons, List.length_nil, Option.bind_some, Option.bind_none, Option.map_some, cond_true, cond_false, Bool.and_true, Bool.true_and, reduceIte, Nat.reduceEqDiff, Nat.reduceAdd, Nat.reduceLeDiff, Nat.zero_add, Nat.zero_le, Nat.zero_ne_one, Nat.one_ne_zero, Nat.reduceLT, true_or, or_true, false_or, or_false, false_and, true_and, and_false, and_true, not_false_eq_true, not_true_eq_false, eq_self, mA_A, mA_I, mI_A, mI_I, b01, b10, b01n, b10n, i10, i01, im0, ei_max, ei_min, ei_obj, n30, n20, b011, b101, orn, nor, dneg, dnle, dne, dcl, cat0, cat1, cat2, cat3, cat4, Tp_c h33, Tp_g4 h33, Tp_g5 h33, pS_4, pS_5, hT'.1, hN, h0, h1, h2, h3, h4, h5, h6, h7, i1004, ht, c1, ts, hd0, c2, c3, i2c8 x hx, tx, oI, cn]
        | some i =>
          have hil := ix_lt hi'
          rw [hi'] at tx
          have cn : (nI i < 0) = False := eq_false (nI_pos (by omega))
          have hs32 : s < 32 := Nat.lt_of_lt_of_le hs (Nat.pow_le_pow_right (by decide) (by omega : ls.length ≤ 5))
          have tb := X_hasBit (sc := sc) (d := d + 8) (h := mk sh (pS (mR M A g) (po T (x :: r2)) v c)) (x := nI s) (k := nI i)
          by_cases qb : s.testBit i = true
          · have e : itP T ls lo hi b (n + 1) s g r = .error (po T (x :: r2)) := by
              show (match ixr ls (sk r) with | none => _ | some i => _) = _
              rw [hsk, show ixr ls (x :: r2) = some i from hi']
              exact if_pos qb
            rw [e]
            refine ⟨g, v, ?_⟩
            rw [if_neg (by rw [tb_c s hs32 i (by omega), qb]; decide)] at tb
            rw [s112_6]
            simp (maxDischargeDepth := 9) only [s112_8, s112_9, s112_12, s112_15, s112_16, s112_19, s112_21, s112_22, s112_25, s112_26, s112_29, s112_32, s112_34, s112_36, s112_41, s112_42, s112_44, s112_45, s112_48, s112_50, s112_52, s112_55, s112_57, s112_59, s112_62, s112_65, s112_66, nl_sti, nl_str, nl_ci, nl_cr, nl_nil, ld_cons, ld_st, lr_some, li_some, lj_some, n2_nl, n2_ci, n2_cr, n2_nil, n2_sti, n2_str, tl_some, tl_none, cat_le, List.length_cons, List.length_nil, Option.bind_some, Option.bind_none, Option.map_some, cond_true, cond_false, Bool.and_true, Bool.true_and, reduceIte, Nat.reduceEqDiff, Nat.reduceAdd, Nat.reduceLeDiff, Nat.zero_add, Nat.zero_le, Nat.zero_ne_one, Nat.one_ne_zero, Nat.reduceLT, true_or, or_true, false_or, or_false, false_and, true_and, and_false, and_true, not_false_eq_true, not_true_eq_false, eq_self, mA_A, mA_I, mI_A, mI_I, b01, b10, b01n, b10n, i10, i01, im0, ei_max, ei_min, ei_obj, n30, n20, b011, b101, orn, nor, dneg, dnle, dne, dcl, cat0, cat1, cat2, cat3, cat4, Tp_c h33, Tp_g4 h33, Tp_g5 h33, pS_4, pS_5, hT'.1, hN, h0, h1, h2, h3, h4, h5, h6, h7, i1004, ht, c1, ts, hd0, c2, c3, i2c8 x hx, tx, oI, cn, tb]
          · have qb' : s.testBit i = false := by cases z : s.testBit i; rfl; exact absurd z qb
            rw [if_pos (by rw [tb_c s hs32 i (by omega)]; exact qb')] at tb
            obtain ⟨u1, u2⟩ := un_s ls.length hls s hs i hil qb'
            have tn := T_num (sc := sc) (d := d + 6) (u := v) (c := c) h33 h34 hT' (m := 3) (l := lo i) (h := hi i) (by decide) (by decide) (by have := (hlo i hil).1; omega) (by have := (hlo i hil).2; omega) hrs.tl
            rw [show nI 3 = (3 : Int32) from rfl] at tn
            have eb : itP T ls lo hi b (n + 1) s g r = if nok 3 r2 = true then (if lo i ≤ nv 3 r2 ∧ nv 3 r2 ≤ hi i then itP T ls lo hi b n (s ||| 2 ^ i) (up g (b + i) (nI (nv 3 r2))) (nr 3 r2) else .error (po T (nr 3 r2) - 1)) else .error (po T (nr 3 r2)) := by
              show (match ixr ls (sk r) with | none => _ | some i => _) = _
              rw [hsk, show ixr ls (x :: r2) = some i from hi']
              exact if_neg qb
            have tp : evp sc (d + 8 + 1) 112 6 L [] (mk sh (pS (mR M A g) (po T r) v c)) = evp sc (d + 8 + 1) 112 99 (e_st1 (e_st1 (e_st1 L 8 (.int (nI x))) 9 (.int (nI i))) 6 (.int (nI (s ||| 2 ^ i)))) [.int (if nok 3 r2 = true ∧ lo i ≤ nv 3 r2 ∧ nv 3 r2 ≤ hi i then 1 else 0)] (mk sh (pS (mR M A g) (if nok 3 r2 = true ∧ ¬ (lo i ≤ nv 3 r2 ∧ nv 3 r2 ≤ hi i) then po T (nr 3 r2) - 1 else po T (nr 3 r2)) (nI (nv 3 r2)) c)) := by
              rw [s112_6]
              simp (maxDischargeDepth := 9) only [s112_8, s112_9, s112_12, s112_15, s112_16, s112_19, s112_21, s112_22, s112_25, s112_26, s112_29, s112_32, s112_34, s112_36, s112_41, s112_42, s112_44, s112_45, s112_48, s112_50, s112_52, s112_55, s112_57, s112_59, s112_62, s112_67, s112_69, s112_70, s112_72, s112_73, s112_74, s112_76, s112_77r, s112_78, s112_81, s112_82, s112_83, s112_86, s112_87, s112_88, s112_89, s112_91, s112_92, s112_93, s112_95, s112_96, nl_sti, nl_str, nl_ci, nl_cr, nl_nil, ld_cons, ld_st, lr_some, li_some, lj_some, n2_nl, n2_ci, n2_cr, n2_nil, n2_sti, n2_str, tl_some, tl_none, cat_le, List.length_cons, List.length_nil, Option.bind_some, Option.bind_none, Option.map_some, cond_true, cond_false, Bool.and_true, Bool.true_and, reduceIte, Nat.reduceEqDiff, Nat.reduceAdd, Nat.reduceLeDiff, Nat.zero_add, Nat.zero_le, Nat.zero_ne_one, Nat.one_ne_zero, Nat.reduceLT, true_or, or_true, false_or, or_false, false_and, true_and, and_false, and_true, not_false_eq_true, not_true_eq_false, eq_self, mA_A, mA_I, mI_A, mI_I, b01, b10, b01n, b10n, i10, i01, im0, ei_max, ei_min, ei_obj, n30, n20, b011, b101, orn, nor, dneg, dnle, dne, dcl, cat0, cat1, cat2, cat3, cat4, Tp_c h33, Tp_g4 h33, Tp_g5 h33, Tp_p5 h33, pS_4, pS_5, pS_w5, hT'.1, hN, h0, h1, h2, h3, h4, h5, h6, h7, i1004, ht, c1, ts, hd0, c2, c3, i2c8 x hx, tx, oI, cn, tb, tb_o s hs32 i (by omega), nI_1, hrs.po1, hle _ i hil, hmo _ i hil, tn]
            rw [tp]
            by_cases qn : nok 3 r2 = true
            · by_cases qr : lo i ≤ nv 3 r2 ∧ nv 3 r2 ≤ hi i
              · rw [eb, if_pos qn, if_pos qr]
                have w1 : e_is (mk sh (pS (mR M A g) (po T (nr 3 r2)) (nI (nv 3 r2)) c)) A (nI (b + i)) (nI (nv 3 r2)) = some (mk sh (pS (mR M A (up g (b + i) (nI (nv 3 r2)))) (po T (nr 3 r2)) (nI (nv 3 r2)) c)) := by
                  rw [is_mk hA, cl_nI (show b + i < la by omega) hla, if_pos (fun z => z.elim (nI_pos (by omega)) (by omega)), ← mA_mR]
                  rfl
                have e10 : ((1 : Int32) = 0) = False := by decide
                have ih := T_items_loop h33 h34 hT hA hA34 hla hbl hls ht hl h59 hle hmo hlo n (s ||| 2 ^ i) (j + 1) (up g (b + i) (nI (nv 3 r2))) (nr 3 r2) (nI (nv 3 r2)) (e_st1 (e_st1 (e_st1 (e_st1 L 8 (.int (nI x))) 9 (.int (nI i))) 6 (.int (nI (s ||| 2 ^ i)))) 7 (.int (nI (j + 1)))) u2 (by omega) (by omega) (show Sx T (nr 3 r2) from hrs.tl.skp.rd) (by simp (maxDischargeDepth := 9) only [nl_sti, nl_str, nl_ci, nl_cr, nl_nil, ld_cons, ld_st, lr_some, li_some, lj_some, n2_nl, n2_ci, n2_cr, n2_nil, n2_sti, n2_str, tl_some, tl_none, cat_le, List.length_cons, List.length_nil, Option.bind_some, Option.bind_none, Option.map_some, cond_true, cond_false, Bool.and_true, Bool.true_and, reduceIte, Nat.reduceEqDiff, Nat.reduceAdd, Nat.reduceLeDiff, Nat.zero_add, Nat.zero_le, Nat.zero_ne_one, Nat.one_ne_zero, Nat.reduceLT, true_or, or_true, false_or, or_false, false_and, true_and, and_false, and_true, not_false_eq_true, not_true_eq_false, eq_self, mA_A, mA_I, mI_A, mI_I, b01, b10, b01n, b10n, i10, i01, im0, ei_max, ei_min, ei_obj, n30, n20, hN]) (by simp only [nl_sti, nl_str, nl_ci, nl_cr, nl_nil, ld_cons, ld_st, lr_some, li_some, lj_some, n2_nl, n2_ci, n2_cr, n2_nil, n2_sti, n2_str, tl_some, tl_none, cat_le, List.length_cons, List.length_nil, Option.bind_some, Option.bind_none, Option.map_some, cond_true, cond_false, Bool.and_true, Bool.true_and, reduceIte, Nat.reduceEqDiff, Nat.reduceAdd, Nat.reduceLeDiff, Nat.zero_add, Nat.zero_le, Nat.zero_ne_one, Nat.one_ne_zero, Nat.reduceLT, true_or, or_true, false_or, or_false, false_and, true_and, and_false, and_true, not_false_eq_true, not_true_eq_false, eq_self, mA_A, mA_I, mI_A, mI_I, b01, b10, b01n, b10n, i10, i01, im0, ei_max, ei_min, ei_obj, n30, n20, h0]) (by simp only [nl_sti, nl_str, nl_ci, nl_cr, nl_nil, ld_cons, ld_st, lr_some, li_some, lj_some, n2_nl, n2_ci, n2_cr, n2_nil, n2_sti, n2_str, tl_some, tl_none, cat_le, List.length_cons, List.length_nil, Option.bind_some, Option.bind_none, Option.map_some, cond_true, cond_false, Bool.and_true, Bool.true_and, reduceIte, Nat.reduceEqDiff, Nat.reduceAdd, Nat.reduceLeDiff, Nat.zero_add, Nat.zero_le, Nat.zero_ne_one, Nat.one_ne_zero, Nat.reduceLT, true_or, or_true, false_or, or_false, false_and, true_and, and_false, and_true, not_false_eq_true, not_true_eq_false, eq_self, mA_A, mA_I, mI_A, mI_I, b01, b10, b01n, b10n, i10, i01, im0, ei_max, ei_min, ei_obj, n30, n20, h1]) (by simp only [nl_sti, nl_str, nl_ci, nl_cr, nl_nil, ld_cons, ld_st, lr_some, li_some, lj_some, n2_nl, n2_ci, n2_cr, n2_nil, n2_sti, n2_str, tl_some, tl_none, cat_le, List.length_cons, List.length_nil, Option.bind_some, Option.bind_none, Option.map_some, cond_true, cond_false, Bool.and_true, Bool.true_and, reduceIte, Nat.reduceEqDiff, Nat.reduceAdd, Nat.reduceLeDiff, Nat.zero_add, Nat.zero_le, Nat.zero_ne_one, Nat.one_ne_zero, Nat.reduceLT, true_or, or_true, false_or, or_false, false_and, true_and, and_false, and_true, not_false_eq_true, not_true_eq_false, eq_self, mA_A, mA_I, mI_A, mI_I, b01, b10, b01n, b10n, i10, i01, im0, ei_max, ei_min, ei_obj, n30, n20, h2]) (by simp only [nl_sti, nl_str, nl_ci, nl_cr, nl_nil, ld_cons, ld_st, lr_some, li_some, lj_some, n2_nl, n2_ci, n2_cr, n2_nil, n2_sti, n2_str, tl_some, tl_none, cat_le, List.length_cons, List.length_nil, Option.bind_some, Option.bind_none, Option.map_some, cond_true, cond_false, Bool.and_true, Bool.true_and, reduceIte, Nat.reduceEqDiff, Nat.reduceAdd, Nat.reduceLeDiff, Nat.zero_add, Nat.zero_le, Nat.zero_ne_one, Nat.one_ne_zero, Nat.reduceLT, true_or, or_true, false_or, or_false, false_and, true_and, and_false, and_true, not_false_eq_true, not_true_eq_false, eq_self, mA_A, mA_I, mI_A, mI_I, b01, b10, b01n, b10n, i10, i01, im0, ei_max, ei_min, ei_obj, n30, n20, h3]) (by simp only [nl_sti, nl_str, nl_ci, nl_cr, nl_nil, ld_cons, ld_st, lr_some, li_some, lj_some, n2_nl, n2_ci, n2_cr, n2_nil, n2_sti, n2_str, tl_some, tl_none, cat_le, List.length_cons, List.length_nil, Option.bind_some, Option.bind_none, Option.map_some, cond_true, cond_false, Bool.and_true, Bool.true_and, reduceIte, Nat.reduceEqDiff, Nat.reduceAdd, Nat.reduceLeDiff, Nat.zero_add, Nat.zero_le, Nat.zero_ne_one, Nat.one_ne_zero, Nat.reduceLT, true_or, or_true, false_or, or_false, false_and, true_and, and_false, and_true, not_false_eq_true, not_true_eq_false, eq_self, mA_A, mA_I, mI_A, mI_I, b01, b10, b01n, b10n, i10, i01, im0, ei_max, ei_min, ei_obj, n30, n20, h4]) (by simp only [nl_sti, nl_str, nl_ci, nl_cr, nl_nil, ld_cons, ld_st, lr_some, li_some, lj_some, n2_nl, n2_ci, n2_cr, n2_nil, n2_sti, n2_str, tl_some, tl_none, cat_le, List.length_cons, List.length_nil, Option.bind_some, Option.bind_none, Option.map_some, cond_true, cond_false, Bool.and_true, Bool.true_and, reduceIte, Nat.reduceEqDiff, Nat.reduceAdd, Nat.reduceLeDiff, Nat.zero_add, Nat.zero_le, Nat.zero_ne_one, Nat.one_ne_zero, Nat.reduceLT, true_or, or_true, false_or, or_false, false_and, true_and, and_false, and_true, not_false_eq_true, not_true_eq_false, eq_self, mA_A, mA_I, mI_A, mI_I, b01, b10, b01n, b10n, i10, i01, im0, ei_max, ei_min, ei_obj, n30, n20, h5]) (by simp only [nl_sti, nl_str, nl_ci, nl_cr, nl_nil, ld_cons, ld_st, lr_some, li_some, lj_some, n2_nl, n2_ci, n2_cr, n2_nil, n2_sti, n2_str, tl_some, tl_none, cat_le, List.length_cons, List.length_nil, Option.bind_some, Option.bind_none, Option.map_some, cond_true, cond_false, Bool.and_true, Bool.true_and, reduceIte, Nat.reduceEqDiff, Nat.reduceAdd, Nat.reduceLeDiff, Nat.zero_add, Nat.zero_le, Nat.zero_ne_one, Nat.one_ne_zero, Nat.reduceLT, true_or, or_true, false_or, or_false, false_and, true_and, and_false, and_true, not_false_eq_true, not_true_eq_false, eq_self, mA_A, mA_I, mI_A, mI_I, b01, b10, b01n, b10n, i10, i01, im0, ei_max, ei_min, ei_obj, n30, n20]) (by simp only [nl_sti, nl_str, nl_ci, nl_cr, nl_nil, ld_cons, ld_st, lr_some, li_some, lj_some, n2_nl, n2_ci, n2_cr, n2_nil, n2_sti, n2_str, tl_some, tl_none, cat_le, List.length_cons, List.length_nil, Option.bind_some, Option.bind_none, Option.map_some, cond_true, cond_false, Bool.and_true, Bool.true_and, reduceIte, Nat.reduceEqDiff, Nat.reduceAdd, Nat.reduceLeDiff, Nat.zero_add, Nat.zero_le, Nat.zero_ne_one, Nat.one_ne_zero, Nat.reduceLT, true_or, or_true, false_or, or_false, false_and, true_and, and_false, and_true, not_false_eq_true, not_true_eq_false, eq_self, mA_A, mA_I, mI_A, mI_I, b01, b10, b01n, b10n, i10, i01, im0, ei_max, ei_min, ei_obj, n30, n20])
                rw [if_pos ⟨qn, qr⟩, if_neg (fun z => z.2 qr), s112_99]
                simp (maxDischargeDepth := 9) only [s112_104, s112_106, s112_108, s112_110, s112_111, s112_112, s112_115, s112_116, s112_119, nl_sti, nl_str, nl_ci, nl_cr, nl_nil, ld_cons, ld_st, lr_some, li_some, lj_some, n2_nl, n2_ci, n2_cr, n2_nil, n2_sti, n2_str, tl_some, tl_none, cat_le, List.length_cons, List.length_nil, Option.bind_some, Option.bind_none, Option.map_some, cond_true, cond_false, Bool.and_true, Bool.true_and, reduceIte, Nat.reduceEqDiff, Nat.reduceAdd, Nat.reduceLeDiff, Nat.zero_add, Nat.zero_le, Nat.zero_ne_one, Nat.one_ne_zero, Nat.reduceLT, true_or, or_true, false_or, or_false, false_and, true_and, and_false, and_true, not_false_eq_true, not_true_eq_false, eq_self, mA_A, mA_I, mI_A, mI_I, b01, b10, b01n, b10n, i10, i01, im0, ei_max, ei_min, ei_obj, n30, n20, b011, b101, orn, nor, dneg, dnle, dne, dcl, cat0, cat1, cat2, cat3, cat4, Tp_g6 h33, pS_6, hN, h0, h1, h2, h3, h4, h5, h6, h7, e10, nI_add, w1, nI_1]
                exact ih
              · rw [eb, if_pos qn, if_neg qr]
                refine ⟨g, nI (nv 3 r2), ?_⟩
                rw [if_neg (fun z => qr z.2), if_pos ⟨qn, qr⟩, s112_99]
                simp (maxDischargeDepth := 9) only [s112_102, s112_103, nl_sti, nl_str, nl_ci, nl_cr, nl_nil, ld_cons, ld_st, lr_some, li_some, lj_some, n2_nl, n2_ci, n2_cr, n2_nil, n2_sti, n2_str, tl_some, tl_none, cat_le, List.length_cons, List.length_nil, Option.bind_some, Option.bind_none, Option.map_some, cond_true, cond_false, Bool.and_true, Bool.true_and, reduceIte, Nat.reduceEqDiff, Nat.reduceAdd, Nat.reduceLeDiff, Nat.zero_add, Nat.zero_le, Nat.zero_ne_one, Nat.one_ne_zero, Nat.reduceLT, true_or, or_true, false_or, or_false, false_and, true_and, and_false, and_true, not_false_eq_true, not_true_eq_false, eq_self, mA_A, mA_I, mI_A, mI_I, b01, b10, b01n, b10n, i10, i01, im0, ei_max, ei_min, ei_obj, n30, n20, b011, b101, orn, nor, dneg, dnle, dne, dcl, cat0, cat1, cat2, cat3, cat4]
            · rw [eb, if_neg qn]
              refine ⟨g, nI (nv 3 r2), ?_⟩
              rw [if_neg (fun z => qn z.1), if_neg (fun z => qn z.1), s112_99]
              simp (maxDischargeDepth := 9) only [s112_102, s112_103, nl_sti, nl_str, nl_ci, nl_cr, nl_nil, ld_cons, ld_st, lr_some, li_some, lj_some, n2_nl, n2_ci, n2_cr, n2_nil, n2_sti, n2_str, tl_some, tl_none, cat_le, List.length_cons, List.length_nil, Option.bind_some, Option.bind_none, Option.map_some, cond_true, cond_false, Bool.and_true, Bool.true_and, reduceIte, Nat.reduceEqDiff, Nat.reduceAdd, Nat.reduceLeDiff, Nat.zero_add, Nat.zero_le, Nat.zero_ne_one, Nat.one_ne_zero, Nat.reduceLT, true_or, or_true, false_or, or_false, false_and, true_and, and_false, and_true, not_false_eq_true, not_true_eq_false, eq_self, mA_A, mA_I, mI_A, mI_I, b01, b10, b01n, b10n, i10, i01, im0, ei_max, ei_min, ei_obj, n30, n20, b011, b101, orn, nor, dneg, dnle, dne, dcl, cat0, cat1, cat2, cat3, cat4]
theorem T_items (h33 : shp sh 33 = some (.inl (9, [37, 38, 39, 40, 0, 0, 0, 0]))) (h34 : shp sh 34 = some (.inr (.inl (0, 240)))) (hT : CTp M T) {A la b k le mo : Nat} {ls : List Nat} {lo hi : Nat → Nat} {g : Nat → Int32} (hA : shp sh A = some (.inr (.inl (0, la)))) (hA34 : ¬ A = 34) (hla : la < 2 ^ 31) (hbl : b + ls.length ≤ la) (hls : ls.length < 6) (hun : un ls.length 0 = ls.length) (ht : e_txt k = some (ls.map nI)) (hl : ∀ u, u ∈ ls → u < 256) (h59 : ix ls 59 = none) (hle : ∀ (h : aH) i, i < ls.length → e_ia sc h le 0 (nI i) = some (nI (lo i))) (hmo : ∀ (h : aH) i, i < ls.length → e_ia sc h mo 0 (nI i) = some (nI (hi i))) (hlo : ∀ i, i < ls.length → lo i < 1000 ∧ hi i < 1000) (hr : Sx T r) : CIt (evp sc (d + 8 + 1) 112 0 [(0, .ref 33), (1, .ref k), (2, .ref le), (3, .ref mo), (4, .ref A), (5, .int (nI b))] [] (mk sh (pS (mR M A g) (po T r) v c))) sh M A c T (itP T ls lo hi b (ls.length + 1) 0 g r) := by
  have t := T_items_loop (sc := sc) (d := d) (c := c) h33 h34 hT hA hA34 hla hbl hls ht hl h59 hle hmo hlo (ls.length + 1) 0 0 g r v (e_st1 (e_st1 [(0, .ref 33), (1, .ref k), (2, .ref le), (3, .ref mo), (4, .ref A), (5, .int (nI b))] 6 (.int 0)) 7 (.int 0)) (Nat.two_pow_pos _) (by omega) (by omega) hr (by simp (maxDischargeDepth := 9) only [nl_sti, nl_str, nl_ci, nl_cr, nl_nil, ld_cons, ld_st, lr_some, li_some, lj_some, n2_nl, n2_ci, n2_cr, n2_nil, n2_sti, n2_str, tl_some, tl_none, cat_le, List.length_cons, List.length_nil, Option.bind_some, Option.bind_none, Option.map_some, cond_true, cond_false, Bool.and_true, Bool.true_and, reduceIte, Nat.reduceEqDiff, Nat.reduceAdd, Nat.reduceLeDiff, Nat.zero_add, Nat.zero_le, Nat.zero_ne_one, Nat.one_ne_zero, Nat.reduceLT, true_or, or_true, false_or, or_false, false_and, true_and, and_false, and_true, not_false_eq_true, not_true_eq_false, eq_self, mA_A, mA_I, mI_A, mI_I, b01, b10, b01n, b10n, i10, i01, im0, ei_max, ei_min, ei_obj, n30, n20, nl_cj]) (by simp only [nl_sti, nl_str, nl_ci, nl_cr, nl_nil, ld_cons, ld_st, lr_some, li_some, lj_some, n2_nl, n2_ci, n2_cr, n2_nil, n2_sti, n2_str, tl_some, tl_none, cat_le, List.length_cons, List.length_nil, Option.bind_some, Option.bind_none, Option.map_some, cond_true, cond_false, Bool.and_true, Bool.true_and, reduceIte, Nat.reduceEqDiff, Nat.reduceAdd, Nat.reduceLeDiff, Nat.zero_add, Nat.zero_le, Nat.zero_ne_one, Nat.one_ne_zero, Nat.reduceLT, true_or, or_true, false_or, or_false, false_and, true_and, and_false, and_true, not_false_eq_true, not_true_eq_false, eq_self, mA_A, mA_I, mI_A, mI_I, b01, b10, b01n, b10n, i10, i01, im0, ei_max, ei_min, ei_obj, n30, n20]) (by simp only [nl_sti, nl_str, nl_ci, nl_cr, nl_nil, ld_cons, ld_st, lr_some, li_some, lj_some, n2_nl, n2_ci, n2_cr, n2_nil, n2_sti, n2_str, tl_some, tl_none, cat_le, List.length_cons, List.length_nil, Option.bind_some, Option.bind_none, Option.map_some, cond_true, cond_false, Bool.and_true, Bool.true_and, reduceIte, Nat.reduceEqDiff, Nat.reduceAdd, Nat.reduceLeDiff, Nat.zero_add, Nat.zero_le, Nat.zero_ne_one, Nat.one_ne_zero, Nat.reduceLT, true_or, or_true, false_or, or_false, false_and, true_and, and_false, and_true, not_false_eq_true, not_true_eq_false, eq_self, mA_A, mA_I, mI_A, mI_I, b01, b10, b01n, b10n, i10, i01, im0, ei_max, ei_min, ei_obj, n30, n20]) (by simp only [nl_sti, nl_str, nl_ci, nl_cr, nl_nil, ld_cons, ld_st, lr_some, li_some, lj_some, n2_nl, n2_ci, n2_cr, n2_nil, n2_sti, n2_str, tl_some, tl_none, cat_le, List.length_cons, List.length_nil, Option.bind_some, Option.bind_none, Option.map_some, cond_true, cond_false, Bool.and_true, Bool.true_and, reduceIte, Nat.reduceEqDiff, Nat.reduceAdd, Nat.reduceLeDiff, Nat.zero_add, Nat.zero_le, Nat.zero_ne_one, Nat.one_ne_zero, Nat.reduceLT, true_or, or_true, false_or, or_false, false_and, true_and, and_false, and_true, not_false_eq_true, not_true_eq_false, eq_self, mA_A, mA_I, mI_A, mI_I, b01, b10, b01n, b10n, i10, i01, im0, ei_max, ei_min, ei_obj, n30, n20]) (by simp only [nl_sti, nl_str, nl_ci, nl_cr, nl_nil, ld_cons, ld_st, lr_some, li_some, lj_some, n2_nl, n2_ci, n2_cr, n2_nil, n2_sti, n2_str, tl_some, tl_none, cat_le, List.length_cons, List.length_nil, Option.bind_some, Option.bind_none, Option.map_some, cond_true, cond_false, Bool.and_true, Bool.true_and, reduceIte, Nat.reduceEqDiff, Nat.reduceAdd, Nat.reduceLeDiff, Nat.zero_add, Nat.zero_le, Nat.zero_ne_one, Nat.one_ne_zero, Nat.reduceLT, true_or, or_true, false_or, or_false, false_and, true_and, and_false, and_true, not_false_eq_true, not_true_eq_false, eq_self, mA_A, mA_I, mI_A, mI_I, b01, b10, b01n, b10n, i10, i01, im0, ei_max, ei_min, ei_obj, n30, n20]) (by simp only [nl_sti, nl_str, nl_ci, nl_cr, nl_nil, ld_cons, ld_st, lr_some, li_some, lj_some, n2_nl, n2_ci, n2_cr, n2_nil, n2_sti, n2_str, tl_some, tl_none, cat_le, List.length_cons, List.length_nil, Option.bind_some, Option.bind_none, Option.map_some, cond_true, cond_false, Bool.and_true, Bool.true_and, reduceIte, Nat.reduceEqDiff, Nat.reduceAdd, Nat.reduceLeDiff, Nat.zero_add, Nat.zero_le, Nat.zero_ne_one, Nat.one_ne_zero, Nat.reduceLT, true_or, or_true, false_or, or_false, false_and, true_and, and_false, and_true, not_false_eq_true, not_true_eq_false, eq_self, mA_A, mA_I, mI_A, mI_I, b01, b10, b01n, b10n, i10, i01, im0, ei_max, ei_min, ei_obj, n30, n20]) (by simp only [nl_sti, nl_str, nl_ci, nl_cr, nl_nil, ld_cons, ld_st, lr_some, li_some, lj_some, n2_nl, n2_ci, n2_cr, n2_nil, n2_sti, n2_str, tl_some, tl_none, cat_le, List.length_cons, List.length_nil, Option.bind_some, Option.bind_none, Option.map_some, cond_true, cond_false, Bool.and_true, Bool.true_and, reduceIte, Nat.reduceEqDiff, Nat.reduceAdd, Nat.reduceLeDiff, Nat.zero_add, Nat.zero_le, Nat.zero_ne_one, Nat.one_ne_zero, Nat.reduceLT, true_or, or_true, false_or, or_false, false_and, true_and, and_false, and_true, not_false_eq_true, not_true_eq_false, eq_self, mA_A, mA_I, mI_A, mI_I, b01, b10, b01n, b10n, i10, i01, im0, ei_max, ei_min, ei_obj, n30, n20]) (by simp only [nl_sti, nl_str, nl_ci, nl_cr, nl_nil, ld_cons, ld_st, lr_some, li_some, lj_some, n2_nl, n2_ci, n2_cr, n2_nil, n2_sti, n2_str, tl_some, tl_none, cat_le, List.length_cons, List.length_nil, Option.bind_some, Option.bind_none, Option.map_some, cond_true, cond_false, Bool.and_true, Bool.true_and, reduceIte, Nat.reduceEqDiff, Nat.reduceAdd, Nat.reduceLeDiff, Nat.zero_add, Nat.zero_le, Nat.zero_ne_one, Nat.one_ne_zero, Nat.reduceLT, true_or, or_true, false_or, or_false, false_and, true_and, and_false, and_true, not_false_eq_true, not_true_eq_false, eq_self, mA_A, mA_I, mI_A, mI_I, b01, b10, b01n, b10n, i10, i01, im0, ei_max, ei_min, ei_obj, n30, n20, nz0]) (by simp only [nl_sti, nl_str, nl_ci, nl_cr, nl_nil, ld_cons, ld_st, lr_some, li_some, lj_some, n2_nl, n2_ci, n2_cr, n2_nil, n2_sti, n2_str, tl_some, tl_none, cat_le, List.length_cons, List.length_nil, Option.bind_some, Option.bind_none, Option.map_some, cond_true, cond_false, Bool.and_true, Bool.true_and, reduceIte, Nat.reduceEqDiff, Nat.reduceAdd, Nat.reduceLeDiff, Nat.zero_add, Nat.zero_le, Nat.zero_ne_one, Nat.one_ne_zero, Nat.reduceLT, true_or, or_true, false_or, or_false, false_and, true_and, and_false, and_true, not_false_eq_true, not_true_eq_false, eq_self, mA_A, mA_I, mI_A, mI_I, b01, b10, b01n, b10n, i10, i01, im0, ei_max, ei_min, ei_obj, n30, n20, nz0])
  simp only [s112_0, s112_1, s112_3, s112_4, nl_sti, nl_str, nl_ci, nl_cr, nl_nil, ld_cons, ld_st, lr_some, li_some, lj_some, n2_nl, n2_ci, n2_cr, n2_nil, n2_sti, n2_str, tl_some, tl_none, cat_le, List.length_cons, List.length_nil, Option.bind_some, Option.bind_none, Option.map_some, cond_true, cond_false, Bool.and_true, Bool.true_and, reduceIte, Nat.reduceEqDiff, Nat.reduceAdd, Nat.reduceLeDiff, Nat.zero_add, Nat.zero_le, Nat.zero_ne_one, Nat.one_ne_zero, Nat.reduceLT, true_or, or_true, false_or, or_false, false_and, true_and, and_false, and_true, not_false_eq_true, not_true_eq_false, eq_self, mA_A, mA_I, mI_A, mI_I, b01, b10, b01n, b10n, i10, i01, im0, ei_max, ei_min, ei_obj, n30, n20, b011, b101, orn, nor, dneg, dnle, dne, dcl, cat0, cat1, cat2, cat3, cat4, nl_cj]
  exact t
end
