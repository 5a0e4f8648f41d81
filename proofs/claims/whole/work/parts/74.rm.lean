/-! CELLS TAKEN OUT OF A LINE -/
def QL0 (A : Nat → Nat → Int32) (l : Nat) (cs : List Nat) (q : List Sg) : Prop := (∀ c, c ∈ cs → c < 240) ∧ cs.Nodup ∧ lnk (A 15) cs ∧ (cs ≠ [] → A 10 l = nI (cs.headD 240)) ∧ A 9 l = nI cs.length ∧ cs.map (fun c => (A 12 c, A 13 c, A 14 c)) = q.map (fun x => (x.1, nI x.2.1, x.2.2.2))
def QX (A : Nat → Nat → Int32) (fre : Int32) (qq : Nat → List Sg) (cs : Nat → List Nat) (fr : List Nat) (own : Nat → Nat) (N ex : Nat) : Prop := (∀ l, l < 48 → QL0 A l (cs l) (qq l) ∧ (∀ c, c ∈ cs l → own c = l) ∧ (¬ l = ex → ∀ r c, cs l = r ++ [c] → A 11 l = nI c)) ∧ QF A fre fr ∧ (∀ c, c ∈ fr → own c = 48) ∧ fr.length = N
theorem lnk_rm {nx : Nat → Int32} {p c : Nat} {r : List Nat} {v : Int32} : ∀ {dn : List Nat}, (dn ++ p :: c :: r).Nodup → lnk nx (dn ++ p :: c :: r) → lnk (up (up nx p (nx c)) c v) (dn ++ p :: r)
  | [], hn, hl => by
    obtain ⟨h1, h2⟩ := List.nodup_cons.mp hn
    obtain ⟨h3, h4⟩ := List.nodup_cons.mp h2
    have hpc : ¬ p = c := fun e => h1 (by rw [e]; exact List.mem_cons_self ..)
    refine ⟨fun hr => ?_, lnk_up h3 (lnk_up (fun q => h1 (List.mem_cons_of_mem _ q)) hl.2.2)⟩
    rw [up_o hpc, up_s]
    exact hl.2.1 hr
  | x :: dn, hn, hl => by
    obtain ⟨h1, h2⟩ := List.nodup_cons.mp hn
    have hxp : ¬ x = p := fun e => h1 (by rw [e]; simp)
    have hxc : ¬ x = c := fun e => h1 (by rw [e]; simp)
    refine ⟨fun _ => ?_, lnk_rm h2 hl.2⟩
    rw [up_o hxc, up_o hxp, hl.1 (by simp)]
    cases dn <;> rfl
theorem QX_rm {A A' : Nat → Nat → Int32} {fre : Int32} {qq : Nat → List Sg} {cs : Nat → List Nat} {fr : List Nat} {own : Nat → Nat} {N l p c : Nat} {dn r : List Nat} {qd qr : List Sg} {x y : Sg} (h : QX A fre qq cs fr own N l) (hl : l < 48) (hcs : cs l = dn ++ p :: c :: r) (hq : qq l = qd ++ x :: y :: qr) (hd : dn.length = qd.length)
    (e9 : A' 9 = up (A 9) l (nI (dn.length + 1 + r.length))) (e15 : A' 15 = up (up (A 15) p (A 15 c)) c fre) (e10 : A' 10 = A 10) (e11 : A' 11 = A 11) (e12 : A' 12 = A 12) (e13 : A' 13 = A 13) (e14 : A' 14 = A 14) :
    QX A' (nI c) (upl qq l (qd ++ x :: qr)) (upl cs l (dn ++ p :: r)) (c :: fr) (upl own c 48) (N + 1) l := by
  obtain ⟨h1, ⟨f1, f2, f3, f4⟩, h3, h4⟩ := h
  obtain ⟨⟨q1, q2, q3, q4, q6, q7⟩, hown, -⟩ := h1 l hl
  rw [hcs] at q1 q2 q3 q4 q7 hown
  have hop : own p = l := hown p (by simp)
  have hoc : own c = l := hown c (by simp)
  have hc240 : c < 240 := q1 c (by simp)
  have hcf : c ∉ fr := fun z => by have := h3 c z; omega
  have hpf : p ∉ fr := fun z => by have := h3 p z; omega
  have hcr : ∀ z, z ∈ dn ++ p :: r → ¬ z = c := by
    intro z hz e
    subst e
    rw [show dn ++ p :: z :: r = dn ++ [p] ++ z :: r by simp, List.nodup_append] at q2
    obtain ⟨n1, n2, n3⟩ := q2
    rcases List.mem_append.mp hz with k | k
    · exact n3 z (by simp [k]) z (List.mem_cons_self ..) rfl
    · rcases List.mem_cons.mp k with k | k
      · exact n3 z (by simp [k]) z (List.mem_cons_self ..) rfl
      · exact (List.nodup_cons.mp n2).1 k
  refine ⟨fun l' hl' => ?_, ⟨fun z hz => ?_, List.nodup_cons.mpr ⟨hcf, f2⟩, rfl, ?_, ?_⟩, fun z hz => ?_, by rw [List.length_cons, h4]⟩
  · by_cases e : l' = l
    · subst e
      rw [upl_s, upl_s]
      refine ⟨⟨fun z hz => q1 z ?_, ?_, ?_, fun _ => ?_, ?_, ?_⟩, fun z hz => ?_, fun hne => absurd rfl hne⟩
      · rcases List.mem_append.mp hz with k | k
        · simp [k]
        · rcases List.mem_cons.mp k with k | k <;> simp [k]
      · refine List.Nodup.sublist ?_ q2
        exact List.Sublist.append_left (List.Sublist.cons_cons p (List.sublist_cons_self c r)) dn
      · rw [e15]
        exact lnk_rm q2 q3
      · rw [e10, q4 (by simp)]
        cases dn <;> rfl
      · rw [e9, up_s, List.length_append, List.length_cons]
        congr 1
        omega
      · rw [hq] at q7
        simp only [List.map_append, List.map_cons] at q7 ⊢
        rw [e12, e13, e14]
        have hlen : (dn.map (fun c => (A 12 c, A 13 c, A 14 c))).length = (qd.map (fun x => (x.1, nI x.2.1, x.2.2.2))).length := by rw [List.length_map, List.length_map, hd]
        obtain ⟨k1, k2⟩ := List.append_inj q7 hlen
        simp only [List.cons.injEq] at k2
        rw [k1, k2.1, k2.2.2]
      · rw [upl_o (hcr z hz)]
        apply hown
        rcases List.mem_append.mp hz with k | k
        · simp [k]
        · rcases List.mem_cons.mp k with k | k <;> simp [k]
    · rw [upl_o e, upl_o e]
      obtain ⟨⟨p1, p2, p3, p4, p6, p7⟩, pown, plast⟩ := h1 l' hl'
      have hnc : c ∉ cs l' := fun z => e ((pown c z).symm.trans hoc)
      have hnp : p ∉ cs l' := fun z => e ((pown p z).symm.trans hop)
      refine ⟨⟨p1, p2, ?_, fun z => ?_, ?_, ?_⟩, fun z hz => ?_, fun hne r0 c0 hr => ?_⟩
      · rw [e15]; exact lnk_up hnc (lnk_up hnp p3)
      · rw [e10]; exact p4 z
      · rw [e9, up_o e]; exact p6
      · rw [e12, e13, e14]; exact p7
      · rw [upl_o (show z ≠ c from fun k => hnc (k ▸ hz))]; exact pown z hz
      · rw [e11]; exact plast hne r0 c0 hr
  · rcases List.mem_cons.mp hz with k | k
    · rw [k]; exact hc240
    · exact f1 z k
  · rw [e15, up_s]; exact f3
  · rw [e15]; exact lnF_up hcf (lnF_up hpf f4)
  · by_cases e : z = c
    · rw [e, upl_s]
    · rw [upl_o e]
      exact h3 z ((List.mem_cons.mp hz).resolve_left e)
theorem sub_s (a : Int32) (k : Nat) : a - 1 - nI k = a - nI (k + 1) := by
  rw [Int32.sub_eq_add_neg (a - 1), Int32.sub_eq_add_neg a 1, Int32.sub_eq_add_neg a (nI (k + 1)), ← nI_1, Int32.neg_add, Int32.add_assoc, Int32.add_comm (-1), Int32.sub_eq_add_neg (-nI k) 1]
theorem upl_id {α : Type} (q : Nat → α) (l : Nat) (x : α) (h : q l = x) : upl q l x = q := by
  funext i
  unfold upl
  split
  · rename_i e; rw [e, h]
  · rfl
theorem QX_last {A A' : Nat → Nat → Int32} {fre : Int32} {qq : Nat → List Sg} {cs : Nat → List Nat} {fr : List Nat} {own : Nat → Nat} {N l : Nat} {v : Int32} (h : QX A fre qq cs fr own N l) (hv : ∀ r c, cs l = r ++ [c] → v = nI c) (e11 : A' 11 = up (A 11) l v) (he : ∀ k, ¬ k = 11 → A' k = A k) : QX A' fre qq cs fr own N 48 := by
  obtain ⟨h1, h2, h3⟩ := h
  refine ⟨fun l' hl' => ?_, ?_, h3⟩
  · obtain ⟨p0, pown, plast⟩ := h1 l' hl'
    refine ⟨?_, pown, fun _ r c hr => ?_⟩
    · unfold QL0 at p0 ⊢
      rw [he 15 (by decide), he 10 (by decide), he 9 (by decide), he 12 (by decide), he 13 (by decide), he 14 (by decide)]
      exact p0
    · by_cases e : l' = l
      · subst e
        rw [e11, up_s]
        exact hv r c hr
      · rw [e11, up_o e]; exact plast e r c hr
  · unfold QF at h2 ⊢
    rw [he 15 (by decide)]
    exact h2
section
variable {sc : aS} {d : Nat} {sh : List sE} {M R : aM} {a : Nat}
def rDrop (R : aM) (l s p c : Nat) : aM := mA (lRelease (mA R 15 p (R.2.1 15 c)) c s) 9 l (R.2.1 9 l - 1)
theorem R_rm_loop (hS : RowSh sh a) {l s g th : Nat} (hl : l < 48) (hs : s < 8) (hg : g < 8) (hth : th ≤ 240) : ∀ (rest : List Nat) (qr : List Sg) (dn : List Nat) (p : Nat) (qd : List Sg) (x : Sg) (R : aM) (qq : Nat → List Sg) (cs : Nat → List Nat) (fr : List Nat) (own : Nat → Nat) (N i : Nat) (L : aL), QX R.2.1 (R.1 5 11) qq cs fr own N l → cs l = dn ++ p :: rest → qq l = qd ++ x :: qr → dn.length = qd.length → (∀ y, y ∈ qr → y.2.1 < 8) → i + rest.length = th → e_n2 L → e_ld L 0 = some (.ref (a + 5)) → e_ld L 1 = some (.int (nI l)) → e_ld L 2 = some (.int (nI s)) → e_ld L 3 = some (.int (nI g)) → e_ld L 4 = some (.int (nI th)) → e_ld L 5 = some (.int (nI p)) → e_ld L 6 = some (.int (nI i)) →
    ∃ R', evp sc (d + 1) 27 19 L [] (mk sh (gl M a 31 R)) = some (none, mk sh (gl M a 31 R')) ∧ (∃ cs' fr' own', QX R'.2.1 (R'.1 5 11) (upl qq l (qd ++ x :: qr.filter (fun y => decide (¬ y.2.1 = g)))) cs' fr' own' (N + qr.countP (fun y => decide (y.2.1 = g))) 48) ∧ R'.2.1 16 = up (R.2.1 16) s (R.2.1 16 s - nI (qr.countP (fun y => decide (y.2.1 = g)))) ∧ R'.1 5 12 = R.1 5 12 - nI (qr.countP (fun y => decide (y.2.1 = g))) ∧ (∀ j, ¬ j = 5 → R'.1 j = R.1 j) ∧ (∀ j, ¬ (j = 9 ∨ j = 11 ∨ j = 15 ∨ j = 16) → R'.2.1 j = R.2.1 j)
  | [], qr, dn, p, qd, x, R, qq, cs, fr, own, N, i, L, hX, hcs, hq, hd, h8, hi, hL, h0, h1, h2, h3, h4, h5, h6 => by
    have hqr : qr = [] := by
      obtain ⟨⟨-, -, -, -, -, q7⟩, -⟩ := hX.1 l hl
      have := congrArg List.length q7
      rw [List.length_map, List.length_map, hcs, hq, List.length_append, List.length_append, List.length_cons, List.length_cons, List.length_nil] at this
      exact List.length_eq_zero_iff.mp (by omega)
    subst hqr
    have c1 : (nI th ≤ nI i) = True := eq_true (nI_le (by rw [List.length_nil] at hi; omega) (by rw [List.length_nil] at hi; omega))
    have i1 := in_nI hl (by decide : 48 < 2 ^ 31)
    have i2 := cl_nI hl (by decide : 48 < 2 ^ 31)
    refine ⟨mA R 11 l (nI p), ?_, ⟨cs, fr, own, ?_⟩, ?_, ?_, fun _ _ => rfl, fun j hj => mA_o (by omega)⟩
    · rw [s27_19]
      simp only [s27_0, s27_1, s27_4, s27_5, s27_6, s27_8, s27_9, s27_12, s27_13, s27_14, s27_16, s27_17, s27_21, s27_23, s27_26, s27_28, s27_31, s27_34, s27_35, s27_38, s27_40, s27_41, s27_43, s27_45, s27_48, s27_51, s27_52, s27_55, s27_57, s27_58, s27_59, s27_62, s27_63, s27_66, s27_68, s27_69, s27_72, s27_74, s27_75, s27_76, s27_77, s27_79, s27_80, s27_83, s27_84, s27_87, s27_88, s27_89, s27_90, s27_91, s27_92, s27_93, s27_96, s27_98, s27_100, s27_103, s27_106, s27_107, s27_110, s27_111, s27_113, s27_114, nl_sti, nl_str, nl_ci, nl_cr, nl_nil, ld_cons, ld_st, lr_some, li_some, lj_some, n2_nl, n2_ci, n2_cr, n2_nil, n2_sti, n2_str, tl_some, tl_none, cat_le, List.length_cons, List.length_nil, Option.bind_some, Option.bind_none, Option.map_some, cond_true, cond_false, Bool.and_true, Bool.true_and, reduceIte, Nat.reduceEqDiff, Nat.reduceAdd, Nat.reduceLeDiff, Nat.zero_add, Nat.zero_le, Nat.zero_ne_one, Nat.one_ne_zero, Nat.reduceLT, true_or, or_true, false_or, or_false, false_and, true_and, and_false, and_true, not_false_eq_true, not_true_eq_false, eq_self, mA_A, mA_I, mI_A, mI_I, b01, b10, b01n, b10n, i10, i01, im0, ei_max, ei_min, ei_obj, n30, n20, b011, b101, orn, nor, dneg, dnle, dne, dcl, cat0, cat1, cat2, cat3, cat4, gR5_0, gR5_1, gR5_2, gR5_3, gR5_4, gR5_5, gR5_6, gR5_7, gR5_8, gR5_9, gR5_10, gR5_11, pR5_11, gR5_12, pR5_12, cR5, aR11, wR11, cR0, cR17, cR19, cR26, cR28, cR30, hS, hL, h0, h1, h2, h3, h4, h5, h6, i1, i2, c1]
    · rw [List.filter_nil, upl_id qq l _ hq]
      exact QX_last (v := nI p) hX (fun r c hr => by
        rw [hcs] at hr
        have := List.append_inj_right' hr rfl
        have e : p = c := by simpa using this
        rw [e]) (mA_up _ _ _ _) (fun k hk => mA_o hk)
    · rw [mA_o (by decide)]
      funext j
      unfold up
      split
      · rename_i e; rw [e]; exact (Int32.sub_zero _).symm
      · rfl
    · exact (Int32.sub_zero _).symm
  | c :: r, qr, dn, p, qd, x, R, qq, cs, fr, own, N, i, L, hX, hcs, hq, hd, h8, hi, hL, h0, h1, h2, h3, h4, h5, h6 => by
    obtain ⟨⟨q1, q2, q3, q4, q6, q7⟩, hown, -⟩ := hX.1 l hl
    rw [List.length_cons] at hi
    have hne : qr ≠ [] := by
      intro z
      have := congrArg List.length q7
      rw [List.length_map, List.length_map, hcs, hq, z, List.length_append, List.length_append, List.length_cons, List.length_cons, List.length_cons, List.length_nil] at this
      omega
    obtain ⟨y, qr', hyq⟩ : ∃ y qr', qr = y :: qr' := by
      cases qr with
      | nil => exact absurd rfl hne
      | cons y qr' => exact ⟨y, qr', rfl⟩
    subst hyq
    have c1 : (nI th ≤ nI i) = False := eq_false (nI_ge (by omega) (by omega))
    have i1 := in_nI hl (by decide : 48 < 2 ^ 31)
    have i2 := cl_nI hl (by decide : 48 < 2 ^ 31)
    have hp240 : p < 240 := q1 p (by rw [hcs]; simp)
    have hc240 : c < 240 := q1 c (by rw [hcs]; simp)
    have p2 := cl_nI hp240 (by decide : 240 < 2 ^ 31)
    have p3 : ¬ nI p < 0 := nI_pos (by omega)
    have p4 : ¬ (240 : Int32) ≤ nI p := by rw [show (240 : Int32) = nI 240 from rfl]; exact nI_ge hp240 (by decide)
    have k2 := cl_nI hc240 (by decide : 240 < 2 ^ 31)
    have k3 : ¬ nI c < 0 := nI_pos (by omega)
    have k4 : ¬ (240 : Int32) ≤ nI c := by rw [show (240 : Int32) = nI 240 from rfl]; exact nI_ge hc240 (by decide)
    have hlnk : lnk (R.2.1 15) (p :: c :: r) := by
      have : ∀ (dn : List Nat), lnk (R.2.1 15) (dn ++ p :: c :: r) → lnk (R.2.1 15) (p :: c :: r) := by
        intro dn
        induction dn with
        | nil => intro h; exact h
        | cons z dn ih => intro h; exact ih h.2
      rw [hcs] at q3
      exact this dn q3
    have hnx : R.2.1 15 p = nI c := hlnk.1 (by simp)
    have hmap : R.2.1 13 c = nI y.2.1 := by
      rw [hcs, hq] at q7
      simp only [List.map_append, List.map_cons] at q7
      have hlen : (dn.map (fun c => (R.2.1 12 c, R.2.1 13 c, R.2.1 14 c))).length = (qd.map (fun x => (x.1, nI x.2.1, x.2.2.2))).length := by rw [List.length_map, List.length_map, hd]
      obtain ⟨-, k⟩ := List.append_inj q7 hlen
      simp only [List.cons.injEq, Prod.mk.injEq] at k
      exact k.2.1.2.1
    have hy8 := h8 y (List.mem_cons_self ..)
    have eg : (nI y.2.1 = nI g) = (y.2.1 = g) := propext (nI_eq (by omega) (by omega))
    by_cases cg : y.2.1 = g
    · have hs1 := in_nI hs (by decide : 8 < 2 ^ 31)
      have t1 := L_release (sc := sc) (d := d) (M := M) (R := mA R 15 p (R.2.1 15 c)) hS hc240 hs
      have e9 : (lRelease (mA R 15 p (R.2.1 15 c)) c s).2.1 9 l = R.2.1 9 l := by simp [lRelease, mA, mI, up2]
      have hX1 : QX (rDrop R l s p c).2.1 ((rDrop R l s p c).1 5 11) (upl qq l (qd ++ x :: qr')) (upl cs l (dn ++ p :: r)) (c :: fr) (upl own c 48) (N + 1) l := by
        have e5 : (rDrop R l s p c).1 5 11 = nI c := by simp [rDrop, lRelease, mA, mI, up2]
        rw [e5]
        refine QX_rm hX hl hcs hq hd ?_ ?_ ?_ ?_ ?_ ?_ ?_
        · have : R.2.1 9 l - 1 = nI (dn.length + 1 + r.length) := by
            rw [q6, hcs, List.length_append, List.length_cons, List.length_cons, show dn.length + (r.length + 1 + 1) = dn.length + 1 + r.length + 1 by omega, nI_pred]
          rw [← this]
          funext j; simp [rDrop, lRelease, mA, mI, up2, up]
        · funext j; simp [rDrop, lRelease, mA, mI, up2, up]
        · funext j; simp [rDrop, lRelease, mA, mI, up2]
        · funext j; simp [rDrop, lRelease, mA, mI, up2]
        · funext j; simp [rDrop, lRelease, mA, mI, up2]
        · funext j; simp [rDrop, lRelease, mA, mI, up2]
        · funext j; simp [rDrop, lRelease, mA, mI, up2]
      obtain ⟨R', g1, ⟨cs', fr', own', g2⟩, g3, g4, g5, g6⟩ := R_rm_loop hS hl hs hg hth r qr' dn p qd x (rDrop R l s p c) (upl qq l (qd ++ x :: qr')) (upl cs l (dn ++ p :: r)) (c :: fr) (upl own c 48) (N + 1) (i + 1) (e_st1 (e_st1 L 7 (.int (nI c))) 6 (.int (nI (i + 1)))) hX1 (upl_s _ _ _) (upl_s _ _ _) hd (fun z hz => h8 z (List.mem_cons_of_mem _ hz)) (by omega) (by simp (maxDischargeDepth := 9) only [nl_sti, nl_str, nl_ci, nl_cr, nl_nil, ld_cons, ld_st, lr_some, li_some, lj_some, n2_nl, n2_ci, n2_cr, n2_nil, n2_sti, n2_str, tl_some, tl_none, cat_le, List.length_cons, List.length_nil, Option.bind_some, Option.bind_none, Option.map_some, cond_true, cond_false, Bool.and_true, Bool.true_and, reduceIte, Nat.reduceEqDiff, Nat.reduceAdd, Nat.reduceLeDiff, Nat.zero_add, Nat.zero_le, Nat.zero_ne_one, Nat.one_ne_zero, Nat.reduceLT, true_or, or_true, false_or, or_false, false_and, true_and, and_false, and_true, not_false_eq_true, not_true_eq_false, eq_self, mA_A, mA_I, mI_A, mI_I, b01, b10, b01n, b10n, i10, i01, im0, ei_max, ei_min, ei_obj, n30, n20, hL]) (by simp only [nl_sti, nl_str, nl_ci, nl_cr, nl_nil, ld_cons, ld_st, lr_some, li_some, lj_some, n2_nl, n2_ci, n2_cr, n2_nil, n2_sti, n2_str, tl_some, tl_none, cat_le, List.length_cons, List.length_nil, Option.bind_some, Option.bind_none, Option.map_some, cond_true, cond_false, Bool.and_true, Bool.true_and, reduceIte, Nat.reduceEqDiff, Nat.reduceAdd, Nat.reduceLeDiff, Nat.zero_add, Nat.zero_le, Nat.zero_ne_one, Nat.one_ne_zero, Nat.reduceLT, true_or, or_true, false_or, or_false, false_and, true_and, and_false, and_true, not_false_eq_true, not_true_eq_false, eq_self, mA_A, mA_I, mI_A, mI_I, b01, b10, b01n, b10n, i10, i01, im0, ei_max, ei_min, ei_obj, n30, n20, h0]) (by simp only [nl_sti, nl_str, nl_ci, nl_cr, nl_nil, ld_cons, ld_st, lr_some, li_some, lj_some, n2_nl, n2_ci, n2_cr, n2_nil, n2_sti, n2_str, tl_some, tl_none, cat_le, List.length_cons, List.length_nil, Option.bind_some, Option.bind_none, Option.map_some, cond_true, cond_false, Bool.and_true, Bool.true_and, reduceIte, Nat.reduceEqDiff, Nat.reduceAdd, Nat.reduceLeDiff, Nat.zero_add, Nat.zero_le, Nat.zero_ne_one, Nat.one_ne_zero, Nat.reduceLT, true_or, or_true, false_or, or_false, false_and, true_and, and_false, and_true, not_false_eq_true, not_true_eq_false, eq_self, mA_A, mA_I, mI_A, mI_I, b01, b10, b01n, b10n, i10, i01, im0, ei_max, ei_min, ei_obj, n30, n20, h1]) (by simp only [nl_sti, nl_str, nl_ci, nl_cr, nl_nil, ld_cons, ld_st, lr_some, li_some, lj_some, n2_nl, n2_ci, n2_cr, n2_nil, n2_sti, n2_str, tl_some, tl_none, cat_le, List.length_cons, List.length_nil, Option.bind_some, Option.bind_none, Option.map_some, cond_true, cond_false, Bool.and_true, Bool.true_and, reduceIte, Nat.reduceEqDiff, Nat.reduceAdd, Nat.reduceLeDiff, Nat.zero_add, Nat.zero_le, Nat.zero_ne_one, Nat.one_ne_zero, Nat.reduceLT, true_or, or_true, false_or, or_false, false_and, true_and, and_false, and_true, not_false_eq_true, not_true_eq_false, eq_self, mA_A, mA_I, mI_A, mI_I, b01, b10, b01n, b10n, i10, i01, im0, ei_max, ei_min, ei_obj, n30, n20, h2]) (by simp only [nl_sti, nl_str, nl_ci, nl_cr, nl_nil, ld_cons, ld_st, lr_some, li_some, lj_some, n2_nl, n2_ci, n2_cr, n2_nil, n2_sti, n2_str, tl_some, tl_none, cat_le, List.length_cons, List.length_nil, Option.bind_some, Option.bind_none, Option.map_some, cond_true, cond_false, Bool.and_true, Bool.true_and, reduceIte, Nat.reduceEqDiff, Nat.reduceAdd, Nat.reduceLeDiff, Nat.zero_add, Nat.zero_le, Nat.zero_ne_one, Nat.one_ne_zero, Nat.reduceLT, true_or, or_true, false_or, or_false, false_and, true_and, and_false, and_true, not_false_eq_true, not_true_eq_false, eq_self, mA_A, mA_I, mI_A, mI_I, b01, b10, b01n, b10n, i10, i01, im0, ei_max, ei_min, ei_obj, n30, n20, h3]) (by simp only [nl_sti, nl_str, nl_ci, nl_cr, nl_nil, ld_cons, ld_st, lr_some, li_some, lj_some, n2_nl, n2_ci, n2_cr, n2_nil, n2_sti, n2_str, tl_some, tl_none, cat_le, List.length_cons, List.length_nil, Option.bind_some, Option.bind_none, Option.map_some, cond_true, cond_false, Bool.and_true, Bool.true_and, reduceIte, Nat.reduceEqDiff, Nat.reduceAdd, Nat.reduceLeDiff, Nat.zero_add, Nat.zero_le, Nat.zero_ne_one, Nat.one_ne_zero, Nat.reduceLT, true_or, or_true, false_or, or_false, false_and, true_and, and_false, and_true, not_false_eq_true, not_true_eq_false, eq_self, mA_A, mA_I, mI_A, mI_I, b01, b10, b01n, b10n, i10, i01, im0, ei_max, ei_min, ei_obj, n30, n20, h4]) (by simp only [nl_sti, nl_str, nl_ci, nl_cr, nl_nil, ld_cons, ld_st, lr_some, li_some, lj_some, n2_nl, n2_ci, n2_cr, n2_nil, n2_sti, n2_str, tl_some, tl_none, cat_le, List.length_cons, List.length_nil, Option.bind_some, Option.bind_none, Option.map_some, cond_true, cond_false, Bool.and_true, Bool.true_and, reduceIte, Nat.reduceEqDiff, Nat.reduceAdd, Nat.reduceLeDiff, Nat.zero_add, Nat.zero_le, Nat.zero_ne_one, Nat.one_ne_zero, Nat.reduceLT, true_or, or_true, false_or, or_false, false_and, true_and, and_false, and_true, not_false_eq_true, not_true_eq_false, eq_self, mA_A, mA_I, mI_A, mI_I, b01, b10, b01n, b10n, i10, i01, im0, ei_max, ei_min, ei_obj, n30, n20, h5]) (by simp only [nl_sti, nl_str, nl_ci, nl_cr, nl_nil, ld_cons, ld_st, lr_some, li_some, lj_some, n2_nl, n2_ci, n2_cr, n2_nil, n2_sti, n2_str, tl_some, tl_none, cat_le, List.length_cons, List.length_nil, Option.bind_some, Option.bind_none, Option.map_some, cond_true, cond_false, Bool.and_true, Bool.true_and, reduceIte, Nat.reduceEqDiff, Nat.reduceAdd, Nat.reduceLeDiff, Nat.zero_add, Nat.zero_le, Nat.zero_ne_one, Nat.one_ne_zero, Nat.reduceLT, true_or, or_true, false_or, or_false, false_and, true_and, and_false, and_true, not_false_eq_true, not_true_eq_false, eq_self, mA_A, mA_I, mI_A, mI_I, b01, b10, b01n, b10n, i10, i01, im0, ei_max, ei_min, ei_obj, n30, n20])
      have hcnt : (y :: qr').countP (fun z => decide (z.2.1 = g)) = qr'.countP (fun z => decide (z.2.1 = g)) + 1 := by rw [List.countP_cons, if_pos (by simp [cg])]
      have hflt : (y :: qr').filter (fun z => decide (¬ z.2.1 = g)) = qr'.filter (fun z => decide (¬ z.2.1 = g)) := by rw [List.filter_cons, if_neg (by simp [cg])]
      rw [hcnt, hflt]
      refine ⟨R', ?_, ⟨cs', fr', own', ?_⟩, ?_, ?_, fun j hj => ?_, fun j hj => ?_⟩
      · rw [← g1, s27_19]
        simp only [s27_0, s27_1, s27_4, s27_5, s27_6, s27_8, s27_9, s27_12, s27_13, s27_14, s27_16, s27_17, s27_21, s27_23, s27_26, s27_28, s27_31, s27_34, s27_35, s27_38, s27_40, s27_41, s27_43, s27_45, s27_48, s27_51, s27_52, s27_55, s27_57, s27_58, s27_59, s27_62, s27_63, s27_66, s27_68, s27_69, s27_72, s27_74, s27_75, s27_76, s27_77, s27_79, s27_80, s27_83, s27_84, s27_87, s27_88, s27_89, s27_90, s27_91, s27_92, s27_93, s27_96, s27_98, s27_100, s27_103, s27_106, s27_107, s27_110, s27_111, s27_113, s27_114, nl_sti, nl_str, nl_ci, nl_cr, nl_nil, ld_cons, ld_st, lr_some, li_some, lj_some, n2_nl, n2_ci, n2_cr, n2_nil, n2_sti, n2_str, tl_some, tl_none, cat_le, List.length_cons, List.length_nil, Option.bind_some, Option.bind_none, Option.map_some, cond_true, cond_false, Bool.and_true, Bool.true_and, reduceIte, Nat.reduceEqDiff, Nat.reduceAdd, Nat.reduceLeDiff, Nat.zero_add, Nat.zero_le, Nat.zero_ne_one, Nat.one_ne_zero, Nat.reduceLT, true_or, or_true, false_or, or_false, false_and, true_and, and_false, and_true, not_false_eq_true, not_true_eq_false, eq_self, mA_A, mA_I, mI_A, mI_I, b01, b10, b01n, b10n, i10, i01, im0, ei_max, ei_min, ei_obj, n30, n20, b011, b101, orn, nor, dneg, dnle, dne, dcl, cat0, cat1, cat2, cat3, cat4, gR5_0, gR5_1, gR5_2, gR5_3, gR5_4, gR5_5, gR5_6, gR5_7, gR5_8, gR5_9, gR5_10, gR5_11, pR5_11, gR5_12, pR5_12, cR5, aR9, wR9, aR13, wR13, aR15, wR15, cR0, cR17, cR19, cR26, cR28, cR30, hS, hL, h0, h1, h2, h3, h4, h5, h6, i1, i2, p2, p3, p4, k2, k3, k4, Nat.not_le.mpr hp240, Nat.not_le.mpr hc240, c1, L_isCell, hnx, hmap, eg, cg, t1, e9, nI_1, rDrop]
      · have : upl (upl qq l (qd ++ x :: qr')) l (qd ++ x :: qr'.filter (fun y => decide (¬ y.2.1 = g))) = upl qq l (qd ++ x :: qr'.filter (fun y => decide (¬ y.2.1 = g))) := by
          funext z; unfold upl; split <;> rfl
        rw [this, show N + 1 + qr'.countP (fun y => decide (y.2.1 = g)) = N + (qr'.countP (fun z => decide (z.2.1 = g)) + 1) by omega] at g2
        exact g2
      · rw [g3]
        have e1 : (rDrop R l s p c).2.1 16 = up (R.2.1 16) s (R.2.1 16 s - 1) := by funext j; simp [rDrop, lRelease, mA, mI, up2, up]
        rw [e1, up_s, up_up, sub_s]
      · rw [g4]
        have e1 : (rDrop R l s p c).1 5 12 = R.1 5 12 - 1 := by simp [rDrop, lRelease, mA, mI, up2]
        rw [e1, sub_s]
      · rw [g5 j hj]
        funext z; simp [rDrop, lRelease, mA, mI, up2, hj]
      · rw [g6 j hj]
        have : ¬ j = 9 ∧ ¬ j = 15 ∧ ¬ j = 16 := by omega
        funext z; simp [rDrop, lRelease, mA, mI, up2, this.1, this.2.1, this.2.2]
    · obtain ⟨R', g1, ⟨cs', fr', own', g2⟩, g3, g4, g5, g6⟩ := R_rm_loop hS hl hs hg hth r qr' (dn ++ [p]) c (qd ++ [x]) y R qq cs fr own N (i + 1) (e_st1 (e_st1 (e_st1 L 7 (.int (nI c))) 5 (.int (nI c))) 6 (.int (nI (i + 1)))) hX (by rw [hcs]; simp) (by rw [hq]; simp) (by rw [List.length_append, List.length_append, hd]; rfl) (fun z hz => h8 z (List.mem_cons_of_mem _ hz)) (by omega) (by simp (maxDischargeDepth := 9) only [nl_sti, nl_str, nl_ci, nl_cr, nl_nil, ld_cons, ld_st, lr_some, li_some, lj_some, n2_nl, n2_ci, n2_cr, n2_nil, n2_sti, n2_str, tl_some, tl_none, cat_le, List.length_cons, List.length_nil, Option.bind_some, Option.bind_none, Option.map_some, cond_true, cond_false, Bool.and_true, Bool.true_and, reduceIte, Nat.reduceEqDiff, Nat.reduceAdd, Nat.reduceLeDiff, Nat.zero_add, Nat.zero_le, Nat.zero_ne_one, Nat.one_ne_zero, Nat.reduceLT, true_or, or_true, false_or, or_false, false_and, true_and, and_false, and_true, not_false_eq_true, not_true_eq_false, eq_self, mA_A, mA_I, mI_A, mI_I, b01, b10, b01n, b10n, i10, i01, im0, ei_max, ei_min, ei_obj, n30, n20, hL]) (by simp only [nl_sti, nl_str, nl_ci, nl_cr, nl_nil, ld_cons, ld_st, lr_some, li_some, lj_some, n2_nl, n2_ci, n2_cr, n2_nil, n2_sti, n2_str, tl_some, tl_none, cat_le, List.length_cons, List.length_nil, Option.bind_some, Option.bind_none, Option.map_some, cond_true, cond_false, Bool.and_true, Bool.true_and, reduceIte, Nat.reduceEqDiff, Nat.reduceAdd, Nat.reduceLeDiff, Nat.zero_add, Nat.zero_le, Nat.zero_ne_one, Nat.one_ne_zero, Nat.reduceLT, true_or, or_true, false_or, or_false, false_and, true_and, and_false, and_true, not_false_eq_true, not_true_eq_false, eq_self, mA_A, mA_I, mI_A, mI_I, b01, b10, b01n, b10n, i10, i01, im0, ei_max, ei_min, ei_obj, n30, n20, h0]) (by simp only [nl_sti, nl_str, nl_ci, nl_cr, nl_nil, ld_cons, ld_st, lr_some, li_some, lj_some, n2_nl, n2_ci, n2_cr, n2_nil, n2_sti, n2_str, tl_some, tl_none, cat_le, List.length_cons, List.length_nil, Option.bind_some, Option.bind_none, Option.map_some, cond_true, cond_false, Bool.and_true, Bool.true_and, reduceIte, Nat.reduceEqDiff, Nat.reduceAdd, Nat.reduceLeDiff, Nat.zero_add, Nat.zero_le, Nat.zero_ne_one, Nat.one_ne_zero, Nat.reduceLT, true_or, or_true, false_or, or_false, false_and, true_and, and_false, and_true, not_false_eq_true, not_true_eq_false, eq_self, mA_A, mA_I, mI_A, mI_I, b01, b10, b01n, b10n, i10, i01, im0, ei_max, ei_min, ei_obj, n30, n20, h1]) (by simp only [nl_sti, nl_str, nl_ci, nl_cr, nl_nil, ld_cons, ld_st, lr_some, li_some, lj_some, n2_nl, n2_ci, n2_cr, n2_nil, n2_sti, n2_str, tl_some, tl_none, cat_le, List.length_cons, List.length_nil, Option.bind_some, Option.bind_none, Option.map_some, cond_true, cond_false, Bool.and_true, Bool.true_and, reduceIte, Nat.reduceEqDiff, Nat.reduceAdd, Nat.reduceLeDiff, Nat.zero_add, Nat.zero_le, Nat.zero_ne_one, Nat.one_ne_zero, Nat.reduceLT, true_or, or_true, false_or, or_false, false_and, true_and, and_false, and_true, not_false_eq_true, not_true_eq_false, eq_self, mA_A, mA_I, mI_A, mI_I, b01, b10, b01n, b10n, i10, i01, im0, ei_max, ei_min, ei_obj, n30, n20, h2]) (by simp only [nl_sti, nl_str, nl_ci, nl_cr, nl_nil, ld_cons, ld_st, lr_some, li_some, lj_some, n2_nl, n2_ci, n2_cr, n2_nil, n2_sti, n2_str, tl_some, tl_none, cat_le, List.length_cons, List.length_nil, Option.bind_some, Option.bind_none, Option.map_some, cond_true, cond_false, Bool.and_true, Bool.true_and, reduceIte, Nat.reduceEqDiff, Nat.reduceAdd, Nat.reduceLeDiff, Nat.zero_add, Nat.zero_le, Nat.zero_ne_one, Nat.one_ne_zero, Nat.reduceLT, true_or, or_true, false_or, or_false, false_and, true_and, and_false, and_true, not_false_eq_true, not_true_eq_false, eq_self, mA_A, mA_I, mI_A, mI_I, b01, b10, b01n, b10n, i10, i01, im0, ei_max, ei_min, ei_obj, n30, n20, h3]) (by simp only [nl_sti, nl_str, nl_ci, nl_cr, nl_nil, ld_cons, ld_st, lr_some, li_some, lj_some, n2_nl, n2_ci, n2_cr, n2_nil, n2_sti, n2_str, tl_some, tl_none, cat_le, List.length_cons, List.length_nil, Option.bind_some, Option.bind_none, Option.map_some, cond_true, cond_false, Bool.and_true, Bool.true_and, reduceIte, Nat.reduceEqDiff, Nat.reduceAdd, Nat.reduceLeDiff, Nat.zero_add, Nat.zero_le, Nat.zero_ne_one, Nat.one_ne_zero, Nat.reduceLT, true_or, or_true, false_or, or_false, false_and, true_and, and_false, and_true, not_false_eq_true, not_true_eq_false, eq_self, mA_A, mA_I, mI_A, mI_I, b01, b10, b01n, b10n, i10, i01, im0, ei_max, ei_min, ei_obj, n30, n20, h4]) (by simp only [nl_sti, nl_str, nl_ci, nl_cr, nl_nil, ld_cons, ld_st, lr_some, li_some, lj_some, n2_nl, n2_ci, n2_cr, n2_nil, n2_sti, n2_str, tl_some, tl_none, cat_le, List.length_cons, List.length_nil, Option.bind_some, Option.bind_none, Option.map_some, cond_true, cond_false, Bool.and_true, Bool.true_and, reduceIte, Nat.reduceEqDiff, Nat.reduceAdd, Nat.reduceLeDiff, Nat.zero_add, Nat.zero_le, Nat.zero_ne_one, Nat.one_ne_zero, Nat.reduceLT, true_or, or_true, false_or, or_false, false_and, true_and, and_false, and_true, not_false_eq_true, not_true_eq_false, eq_self, mA_A, mA_I, mI_A, mI_I, b01, b10, b01n, b10n, i10, i01, im0, ei_max, ei_min, ei_obj, n30, n20]) (by simp only [nl_sti, nl_str, nl_ci, nl_cr, nl_nil, ld_cons, ld_st, lr_some, li_some, lj_some, n2_nl, n2_ci, n2_cr, n2_nil, n2_sti, n2_str, tl_some, tl_none, cat_le, List.length_cons, List.length_nil, Option.bind_some, Option.bind_none, Option.map_some, cond_true, cond_false, Bool.and_true, Bool.true_and, reduceIte, Nat.reduceEqDiff, Nat.reduceAdd, Nat.reduceLeDiff, Nat.zero_add, Nat.zero_le, Nat.zero_ne_one, Nat.one_ne_zero, Nat.reduceLT, true_or, or_true, false_or, or_false, false_and, true_and, and_false, and_true, not_false_eq_true, not_true_eq_false, eq_self, mA_A, mA_I, mI_A, mI_I, b01, b10, b01n, b10n, i10, i01, im0, ei_max, ei_min, ei_obj, n30, n20])
      have hcnt : (y :: qr').countP (fun z => decide (z.2.1 = g)) = qr'.countP (fun z => decide (z.2.1 = g)) := by rw [List.countP_cons, if_neg (by simp [cg])]; rfl
      have hflt : (y :: qr').filter (fun z => decide (¬ z.2.1 = g)) = y :: qr'.filter (fun z => decide (¬ z.2.1 = g)) := by rw [List.filter_cons, if_pos (by simp [cg])]
      rw [hcnt, hflt]
      refine ⟨R', ?_, ⟨cs', fr', own', ?_⟩, g3, g4, g5, g6⟩
      · rw [← g1, s27_19]
        simp only [s27_0, s27_1, s27_4, s27_5, s27_6, s27_8, s27_9, s27_12, s27_13, s27_14, s27_16, s27_17, s27_21, s27_23, s27_26, s27_28, s27_31, s27_34, s27_35, s27_38, s27_40, s27_41, s27_43, s27_45, s27_48, s27_51, s27_52, s27_55, s27_57, s27_58, s27_59, s27_62, s27_63, s27_66, s27_68, s27_69, s27_72, s27_74, s27_75, s27_76, s27_77, s27_79, s27_80, s27_83, s27_84, s27_87, s27_88, s27_89, s27_90, s27_91, s27_92, s27_93, s27_96, s27_98, s27_100, s27_103, s27_106, s27_107, s27_110, s27_111, s27_113, s27_114, nl_sti, nl_str, nl_ci, nl_cr, nl_nil, ld_cons, ld_st, lr_some, li_some, lj_some, n2_nl, n2_ci, n2_cr, n2_nil, n2_sti, n2_str, tl_some, tl_none, cat_le, List.length_cons, List.length_nil, Option.bind_some, Option.bind_none, Option.map_some, cond_true, cond_false, Bool.and_true, Bool.true_and, reduceIte, Nat.reduceEqDiff, Nat.reduceAdd, Nat.reduceLeDiff, Nat.zero_add, Nat.zero_le, Nat.zero_ne_one, Nat.one_ne_zero, Nat.reduceLT, true_or, or_true, false_or, or_false, false_and, true_and, and_false, and_true, not_false_eq_true, not_true_eq_false, eq_self, mA_A, mA_I, mI_A, mI_I, b01, b10, b01n, b10n, i10, i01, im0, ei_max, ei_min, ei_obj, n30, n20, b011, b101, orn, nor, dneg, dnle, dne, dcl, cat0, cat1, cat2, cat3, cat4, gR5_0, gR5_1, gR5_2, gR5_3, gR5_4, gR5_5, gR5_6, gR5_7, gR5_8, gR5_9, gR5_10, gR5_11, pR5_11, gR5_12, pR5_12, cR5, aR9, wR9, aR13, wR13, aR15, wR15, cR0, cR17, cR19, cR26, cR28, cR30, hS, hL, h0, h1, h2, h3, h4, h5, h6, i1, i2, p2, p3, p4, k2, k3, k4, Nat.not_le.mpr hp240, Nat.not_le.mpr hc240, c1, L_isCell, hnx, hmap, eg, cg, nI_1]
      · rw [List.append_assoc] at g2
        exact g2
end
