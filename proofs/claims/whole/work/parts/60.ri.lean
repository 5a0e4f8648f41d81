/-! THE RELATION OF TWO ROWS, and that it rests on what lies within their arrays alone -/
def RI (R : aM) (f : Nat → Int32) (n dl bal lv t B : Nat) (wl : Nat → List Sg) (al : List (Nat → Int32)) (lg : LgT) (Ln : Nat → List (Option Se)) : Prop :=
  cT R f n dl bal lv t ∧ cK R f B ∧ cA R f ∧ cL R f B ∧ cQ R f n lv wl ∧ cO R f n B ∧ RgA R f al ∧ RgT R f lg ∧ Lns R f dl n (fun _ => t) Ln ∧ (∀ q, q < 14 → (Ln q).length ≤ dl) ∧ R.1 19 4 = nI (uS Ln) ∧ Uq (R.1 19 0) wl Ln
theorem TI_RI {R : aM} {P : aP} {n dl bal lv t B : Nat} {wl : Nat → List Sg} {al : List (Nat → Int32)} {lg : LgT} {LL : List (Int32 × Int32)} {Ln : Nat → List (Option Se)} : TI R P n dl bal lv t B wl al lg LL Ln ↔ RI R P.2 n dl bal lv t B wl al lg Ln ∧ cW P.1 n dl bal lv ∧ cLd P.1 LL := by
  constructor
  · rintro ⟨⟨a1, a2, a3, a4, a5, a6, a7, a8, a9, a10⟩, b1, b2, b3⟩
    exact ⟨⟨a1, a3, a4, a5, a6, a7, a8, a9, b1, b2, b3⟩, a2, a10⟩
  · rintro ⟨⟨a1, a3, a4, a5, a6, a7, a8, a9, b1, b2, b3⟩, a2, a10⟩
    exact ⟨⟨a1, a2, a3, a4, a5, a6, a7, a8, a9, a10⟩, b1, b2, b3⟩
theorem RI.mono {R : aM} {f : Nat → Int32} {n dl bal lv t B B' : Nat} {wl : Nat → List Sg} {al : List (Nat → Int32)} {lg : LgT} {Ln : Nat → List (Option Se)} (h : RI R f n dl bal lv t B wl al lg Ln) (hB : B ≤ B') : RI R f n dl bal lv t B' wl al lg Ln := by
  obtain ⟨a1, a3, a4, a5, a6, a7, a8, a9, b⟩ := h
  exact ⟨a1, a3.cg hB (fun _ _ => rfl) (fun _ _ _ => rfl), a4, a5.cg hB (fun _ _ _ => rfl) (fun _ _ _ _ _ => rfl), a6, a7.cg hB (fun _ _ _ => rfl) (fun _ _ _ => rfl), a8, a9, b⟩
theorem lnk_b {nx nx' : Nat → Int32} : ∀ {cs : List Nat}, (∀ c, c ∈ cs → nx' c = nx c) → lnk nx cs → lnk nx' cs
  | [], _, _ => trivial
  | x :: r, h, hl => ⟨fun q => by rw [h x (List.mem_cons_self ..)]; exact hl.1 q, lnk_b (fun c hc => h c (List.mem_cons_of_mem _ hc)) hl.2⟩
theorem lnF_b {nx nx' : Nat → Int32} : ∀ {cs : List Nat}, (∀ c, c ∈ cs → nx' c = nx c) → lnF nx cs → lnF nx' cs
  | [], _, _ => trivial
  | x :: r, h, hl => ⟨by rw [h x (List.mem_cons_self ..)]; exact hl.1, lnF_b (fun c hc => h c (List.mem_cons_of_mem _ hc)) hl.2⟩
theorem QC_b {A A' : Nat → Nat → Int32} {fre : Int32} {wl : Nat → List Sg} {cs : Nat → List Nat} {fr : List Nat} {own : Nat → Nat} (h : QC A fre wl cs fr own) (e : ∀ k j, 9 ≤ k → k ≤ 15 → j < alen k → A' k j = A k j) : QC A' fre wl cs fr own := by
  obtain ⟨h1, ⟨f1, f2, f3, f4⟩, h3⟩ := h
  refine ⟨fun s b v hs hb hv => ?_, ⟨f1, f2, f3, lnF_b (fun c hc => e 15 c (by omega) (by omega) (f1 c hc)) f4⟩, h3⟩
  obtain ⟨⟨q1, q2, q3, q4, q5, q6, q7⟩, q8⟩ := h1 s b v hs hb hv
  have hl : (s * 2 + b) * 3 + v < 48 := by omega
  refine ⟨⟨q1, q2, lnk_b (fun c hc => e 15 c (by omega) (by omega) (q1 c hc)) q3, fun z => ?_, fun r c z => ?_, ?_, ?_⟩, q8⟩
  · rw [e 10 _ (by omega) (by omega) hl]; exact q4 z
  · rw [e 11 _ (by omega) (by omega) hl]; exact q5 r c z
  · rw [e 9 _ (by omega) (by omega) hl]; exact q6
  · rw [← q7]
    apply List.map_congr_left
    intro c hc
    rw [e 12 c (by omega) (by omega) (q1 c hc), e 13 c (by omega) (by omega) (q1 c hc), e 14 c (by omega) (by omega) (q1 c hc)]
theorem RI.ext {R R' : aM} {f f' : Nat → Int32} {n dl bal lv t B : Nat} {wl : Nat → List Sg} {al : List (Nat → Int32)} {lg : LgT} {Ln : Nat → List (Option Se)} (h : RI R f n dl bal lv t B wl al lg Ln) (hA : Agr R R') (hT : TdC R') (hf : ∀ j, j < 1922 → f' j = f j) : RI R' f' n dl bal lv t B wl al lg Ln := by
  obtain ⟨g1, g2, g3, g4, g5⟩ := hA
  obtain ⟨a1, a3, a4, a5, a6, a7, a8, a9, b1, b2, b3⟩ := h
  have hdl : dl ≤ 3 := a1.1.2.2.2.1
  refine ⟨?_, ?_, ?_, ?_, ?_, ?_, ?_, ?_, ⟨fun q hq => ?_, fun p b hp hb ho => ?_⟩, b2, by rw [g3 4 (by omega)]; exact b3.1, by rw [g3 0 (by omega)]; exact b3.2⟩
  · obtain ⟨⟨o1, o2, o3, o4, o5, o6, o7, o8⟩, t1, t2, t3, t4, t5, t6⟩ := a1
    exact ⟨⟨by rw [g1 0 (by omega)]; exact o1, o2, by rw [g1 1 (by omega)]; exact o3, o4, by rw [g1 3 (by omega)]; exact o5, o6, by rw [g1 6 (by omega)]; exact o7, o8⟩, by rw [g1 2 (by omega)]; exact t1, t2, by rw [g1 4 (by omega), hf _ (by omega)]; exact t3, by rw [g1 5 (by omega), hf _ (by omega)]; exact t4, by rw [hf _ (by omega)]; exact t5, t6⟩
  · obtain ⟨⟨m, c1, c2, c3⟩, c4, c5, c6, c7⟩ := a3
    exact ⟨⟨m, c1, by rw [g3 0 (by omega)]; exact c2, by rw [hf _ (by omega)]; exact c3⟩, by rw [g3 1 (by omega), hf _ (by omega)]; exact c4, by rw [g3 2 (by omega), hf _ (by omega)]; exact c5, by rw [g3 3 (by omega), hf _ (by omega)]; exact c6, by rw [g3 5 (by omega), hf _ (by omega)]; exact c7⟩
  · refine ⟨fun s hs => ?_, fun k hk => ?_⟩
    · rw [g5 20 s hs, g5 21 s hs, g5 23 s hs, g5 24 s hs, g5 25 s hs, hf _ (by omega), hf _ (by omega), hf _ (by omega), hf _ (by omega), hf _ (by omega)]
      exact a4.1 s hs
    · rw [g5 22 k hk, hf _ (by omega)]
      exact a4.2 k hk
  · intro l hl
    obtain ⟨x, y, z, c1, c2, c3, c4, c5, c6, c7, c8, c9⟩ := a5 l hl
    exact ⟨x, y, z, c1, c2, c3, by rw [g5 6 l hl]; exact c4, by rw [hf _ (by omega)]; exact c5, by rw [g5 7 l hl]; exact c6, by rw [hf _ (by omega)]; exact c7, by rw [g5 8 l hl]; exact c8, by rw [hf _ (by omega)]; exact c9⟩
  · obtain ⟨⟨cs, fr, own, c1⟩, c2, c3, c4⟩ := a6
    refine ⟨⟨cs, fr, own, ?_⟩, fun s hs => ?_, by rw [g2 12 (by omega)]; exact c3, fun s b v hs hb hv => by rw [hf _ (by omega)]; exact c4 s b v hs hb hv⟩
    · rw [g2 11 (by omega)]
      exact QC_b c1 (fun k j p q r => g5 k j r)
    · obtain ⟨d1, d2, d3⟩ := c2 s hs
      exact ⟨d1.cg hs (fun j hj => hf j (by omega)), by rw [g5 16 s hs]; exact d2, d3⟩
  · intro b hb
    obtain ⟨x, e, c, c1, c2, c3, c4, c5, c6, c7, c8, c9, c10, c11⟩ := a7 b hb
    exact ⟨x, e, c, c1, c2, c3, c4, c5, by rw [g5 2 b hb]; exact c6, by rw [hf _ (by omega)]; exact c7, by rw [g5 1 b hb]; exact c8, by rw [hf _ (by omega)]; exact c9, by rw [hf _ (by omega)]; exact c10, fun q => by rw [g5 3 b hb]; exact c11 q⟩
  · obtain ⟨st, c1, c2, c3, c4, c5, c6, c7, c8⟩ := a8
    refine ⟨st, c1, hT.2.2.1, hT.2.2.2, by rw [(g4 3 (Or.inl rfl)).2]; exact c4, by rw [(g4 4 (Or.inr rfl)).2]; exact c5, c6, by rw [hf _ (by omega)]; exact c7, fun j x hj => ?_⟩
    have hjl := (List.getElem?_eq_some_iff.mp hj).1
    obtain ⟨d1, d2⟩ := c8 j x hj
    exact ⟨fun c hc => by rw [g5 29 _ (show _ < 200 by omega)]; exact d1 c hc, fun c hc => by rw [hf _ (by omega)]; exact d2 c hc⟩
  · obtain ⟨⟨st, c1, c2, c3, c4, c5, c6, c7, c8⟩, a9'⟩ := a9
    refine ⟨⟨st, c1, hT.1, hT.2.1, by rw [(g4 3 (Or.inl rfl)).1]; exact c4, by rw [(g4 4 (Or.inr rfl)).1]; exact c5, c6, c7, fun j x hj => ?_⟩, fun i hi => (hf _ (by omega)).trans (a9' i hi)⟩
    have hjl := (List.getElem?_eq_some_iff.mp hj).1
    obtain ⟨d1, d2⟩ := c8 j x hj
    exact ⟨fun c hc => by rw [g5 27 _ (show _ < 180 by omega)]; exact d1 c hc, d2⟩
  · exact (b1.1 q hq).cg hdl (fun i hi => g5 18 _ (show _ < 448 by omega)) (fun i hi => hf _ (by omega))
  · refine b1.2 p b hp hb ?_
    unfold opn at ho ⊢
    rw [← hf 1550 (by omega)]
    exact ho
theorem RI.td {R : aM} {f : Nat → Int32} {n dl bal lv t B : Nat} {wl : Nat → List Sg} {al : List (Nat → Int32)} {lg : LgT} {Ln : Nat → List (Option Se)} (h : RI R f n dl bal lv t B wl al lg Ln) : TdC R := by
  obtain ⟨a1, a3, a4, a5, a6, a7, ⟨st, c1, c2, c3, c4⟩, ⟨⟨st', d1, d2, d3, d4⟩, -⟩, b⟩ := h
  exact ⟨d2, d3, c2, c3⟩
