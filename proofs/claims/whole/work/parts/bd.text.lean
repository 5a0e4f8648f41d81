/-! THE TEXTS: String.length, charAt, indexOf, in the bytecode of the JDK -/
abbrev tn_len : MethodName := ⟨"java/lang/String", "length", "()I"⟩
abbrev tb_len : ByteArray := prog_23_method_54_code
abbrev tn_cod : MethodName := ⟨"java/lang/String", "coder", "()B"⟩
abbrev tb_cod : ByteArray := prog_23_method_152_code
abbrev tn_lat : MethodName := ⟨"java/lang/String", "isLatin1", "()Z"⟩
abbrev tb_lat : ByteArray := prog_23_method_154_code
abbrev tn_chr : MethodName := ⟨"java/lang/String", "charAt", "(I)C"⟩
abbrev tb_chr : ByteArray := prog_23_method_56_code
abbrev tn_ixa : MethodName := ⟨"java/lang/String", "indexOf", "(I)I"⟩
abbrev tb_ixa : ByteArray := prog_23_method_79_code
abbrev tn_ixb : MethodName := ⟨"java/lang/String", "indexOf", "(II)I"⟩
abbrev tb_ixb : ByteArray := prog_23_method_80_code
abbrev tn_lch : MethodName := ⟨"java/lang/StringLatin1", "charAt", "([BI)C"⟩
abbrev tb_lch : ByteArray := prog_24_method_2_code
abbrev tn_cki : MethodName := ⟨"java/lang/String", "checkIndex", "(II)V"⟩
abbrev tb_cki : ByteArray := prog_23_method_155_code
abbrev tn_pck : MethodName := ⟨"jdk/internal/util/Preconditions", "checkIndex", "(IILjava/util/function/BiFunction;)I"⟩
abbrev tb_pck : ByteArray := prog_31_method_11_code
abbrev tn_lix : MethodName := ⟨"java/lang/StringLatin1", "indexOf", "([BIII)I"⟩
abbrev tb_lix : ByteArray := prog_24_method_22_code
abbrev tn_can : MethodName := ⟨"java/lang/StringLatin1", "canEncode", "(I)Z"⟩
abbrev tb_can : ByteArray := prog_24_method_4_code
abbrev tn_ioc : MethodName := ⟨"java/lang/StringLatin1", "indexOfChar", "([BIII)I"⟩
abbrev tb_ioc : ByteArray := prog_24_method_23_code
set_option maxRecDepth 100000 in
theorem tg_len_i : Cond.instanceMethod tn_len ∈ gt := ckW_of (i := 610) rfl rfl
set_option maxRecDepth 100000 in
theorem tg_len_s : Cond.selects "java/lang/String" tn_len tn_len ∈ gt := ckW_of (i := 611) rfl rfl
set_option maxRecDepth 100000 in
theorem tg_len_c : Cond.code tn_len tb_len 1 (some .int) ∈ gt := ckW_of (i := 612) rfl rfl
theorem tg_len_d : ckD tn_len 0 = true := by decide +kernel
set_option maxRecDepth 100000 in
theorem tg_cod_i : Cond.instanceMethod tn_cod ∈ gt := ckW_of (i := 614) rfl rfl
set_option maxRecDepth 100000 in
theorem tg_cod_s : Cond.selects "java/lang/String" tn_cod tn_cod ∈ gt := ckW_of (i := 615) rfl rfl
set_option maxRecDepth 100000 in
theorem tg_cod_c : Cond.code tn_cod tb_cod 1 (some .byte) ∈ gt := ckW_of (i := 616) rfl rfl
theorem tg_cod_d : ckD tn_cod 0 = true := by decide +kernel
set_option maxRecDepth 100000 in
theorem tg_lat_i : Cond.instanceMethod tn_lat ∈ gt := ckW_of (i := 628) rfl rfl
set_option maxRecDepth 100000 in
theorem tg_lat_s : Cond.selects "java/lang/String" tn_lat tn_lat ∈ gt := ckW_of (i := 629) rfl rfl
set_option maxRecDepth 100000 in
theorem tg_lat_c : Cond.code tn_lat tb_lat 1 (some .boolean) ∈ gt := ckW_of (i := 630) rfl rfl
theorem tg_lat_d : ckD tn_lat 0 = true := by decide +kernel
set_option maxRecDepth 100000 in
theorem tg_chr_i : Cond.instanceMethod tn_chr ∈ gt := ckW_of (i := 1594) rfl rfl
set_option maxRecDepth 100000 in
theorem tg_chr_s : Cond.selects "java/lang/String" tn_chr tn_chr ∈ gt := ckW_of (i := 1595) rfl rfl
set_option maxRecDepth 100000 in
theorem tg_chr_c : Cond.code tn_chr tb_chr 2 (some .char) ∈ gt := ckW_of (i := 1596) rfl rfl
theorem tg_chr_d : ckD tn_chr 1 = true := by decide +kernel
set_option maxRecDepth 100000 in
theorem tg_ixa_i : Cond.instanceMethod tn_ixa ∈ gt := ckW_of (i := 620) rfl rfl
set_option maxRecDepth 100000 in
theorem tg_ixa_s : Cond.selects "java/lang/String" tn_ixa tn_ixa ∈ gt := ckW_of (i := 621) rfl rfl
set_option maxRecDepth 100000 in
theorem tg_ixa_c : Cond.code tn_ixa tb_ixa 2 (some .int) ∈ gt := ckW_of (i := 622) rfl rfl
theorem tg_ixa_d : ckD tn_ixa 1 = true := by decide +kernel
set_option maxRecDepth 100000 in
theorem tg_ixb_i : Cond.instanceMethod tn_ixb ∈ gt := ckW_of (i := 624) rfl rfl
set_option maxRecDepth 100000 in
theorem tg_ixb_s : Cond.selects "java/lang/String" tn_ixb tn_ixb ∈ gt := ckW_of (i := 625) rfl rfl
set_option maxRecDepth 100000 in
theorem tg_ixb_c : Cond.code tn_ixb tb_ixb 3 (some .int) ∈ gt := ckW_of (i := 626) rfl rfl
theorem tg_ixb_d : ckD tn_ixb 2 = true := by decide +kernel
set_option maxRecDepth 100000 in
theorem tg_lch_s : Cond.static tn_lch ∈ gt := ckW_of (i := 1598) rfl rfl
set_option maxRecDepth 100000 in
theorem tg_lch_c : Cond.code tn_lch tb_lch 2 (some .char) ∈ gt := ckW_of (i := 1599) rfl rfl
theorem tg_lch_d : ckD tn_lch 2 = true := by decide +kernel
set_option maxRecDepth 100000 in
theorem tg_cki_s : Cond.static tn_cki ∈ gt := ckW_of (i := 1601) rfl rfl
set_option maxRecDepth 100000 in
theorem tg_cki_c : Cond.code tn_cki tb_cki 2 none ∈ gt := ckW_of (i := 1602) rfl rfl
theorem tg_cki_d : ckD tn_cki 2 = true := by decide +kernel
set_option maxRecDepth 100000 in
theorem tg_pck_s : Cond.static tn_pck ∈ gt := ckW_of (i := 1604) rfl rfl
set_option maxRecDepth 100000 in
theorem tg_pck_c : Cond.code tn_pck tb_pck 3 (some .int) ∈ gt := ckW_of (i := 1605) rfl rfl
theorem tg_pck_d : ckD tn_pck 3 = true := by decide +kernel
set_option maxRecDepth 100000 in
theorem tg_lix_s : Cond.static tn_lix ∈ gt := ckW_of (i := 633) rfl rfl
set_option maxRecDepth 100000 in
theorem tg_lix_c : Cond.code tn_lix tb_lix 4 (some .int) ∈ gt := ckW_of (i := 634) rfl rfl
theorem tg_lix_d : ckD tn_lix 4 = true := by decide +kernel
set_option maxRecDepth 100000 in
theorem tg_can_s : Cond.static tn_can ∈ gt := ckW_of (i := 636) rfl rfl
set_option maxRecDepth 100000 in
theorem tg_can_c : Cond.code tn_can tb_can 1 (some .boolean) ∈ gt := ckW_of (i := 637) rfl rfl
theorem tg_can_d : ckD tn_can 1 = true := by decide +kernel
set_option maxRecDepth 100000 in
theorem tg_ioc_s : Cond.static tn_ioc ∈ gt := ckW_of (i := 645) rfl rfl
set_option maxRecDepth 100000 in
theorem tg_ioc_c : Cond.code tn_ioc tb_ioc 6 (some .int) ∈ gt := ckW_of (i := 646) rfl rfl
theorem tg_ioc_d : ckD tn_ioc 4 = true := by decide +kernel
set_option maxRecDepth 100000 in
theorem tg_iS : Cond.initialized "java/lang/String" ∈ gt := ckW_of (i := 108) rfl rfl
set_option maxRecDepth 100000 in
theorem tg_iL : Cond.initialized "java/lang/StringLatin1" ∈ gt := ckW_of (i := 109) rfl rfl
set_option maxRecDepth 100000 in
theorem tg_iP : Cond.initialized "jdk/internal/util/Preconditions" ∈ gt := ckW_of (i := 112) rfl rfl
set_option maxRecDepth 100000 in
theorem tg_l335 : Cond.methodLink "java/lang/String" 335 tn_cod ∈ gt := ckW_of (i := 613) rfl rfl
set_option maxRecDepth 100000 in
theorem tg_f38 : Cond.fieldLink "java/lang/String" 38 "java/lang/String" "COMPACT_STRINGS" "Z" ∈ gt := ckW_of (i := 617) rfl rfl
set_option maxRecDepth 100000 in
theorem tg_l633 : Cond.methodLink "java/lang/String" 633 tn_ixb ∈ gt := ckW_of (i := 623) rfl rfl
set_option maxRecDepth 100000 in
theorem tg_l492 : Cond.methodLink "java/lang/String" 492 tn_lat ∈ gt := ckW_of (i := 627) rfl rfl
set_option maxRecDepth 100000 in
theorem tg_l505 : Cond.methodLink "java/lang/String" 505 tn_len ∈ gt := ckW_of (i := 631) rfl rfl
set_option maxRecDepth 100000 in
theorem tg_l637 : Cond.methodLink "java/lang/String" 637 tn_lix ∈ gt := ckW_of (i := 632) rfl rfl
set_option maxRecDepth 100000 in
theorem tg_l88 : Cond.methodLink "java/lang/StringLatin1" 88 tn_can ∈ gt := ckW_of (i := 635) rfl rfl
set_option maxRecDepth 100000 in
theorem tg_l92 : Cond.methodLink "java/lang/StringLatin1" 92 Lib.Math.max.name ∈ gt := ckW_of (i := 638) rfl rfl
set_option maxRecDepth 100000 in
theorem tg_l38 : Cond.methodLink "java/lang/StringLatin1" 38 Lib.Math.min.name ∈ gt := ckW_of (i := 641) rfl rfl
set_option maxRecDepth 100000 in
theorem tg_l95 : Cond.methodLink "java/lang/StringLatin1" 95 tn_ioc ∈ gt := ckW_of (i := 644) rfl rfl
set_option maxRecDepth 100000 in
theorem tg_f1053 : Cond.fieldLink "java/lang/String" 1053 "jdk/internal/util/Preconditions" "SIOOBE_FORMATTER" "Ljava/util/function/BiFunction;" ∈ gt := ckW_of (i := 665) rfl rfl
set_option maxRecDepth 100000 in
theorem tg_l495 : Cond.methodLink "java/lang/String" 495 tn_lch ∈ gt := ckW_of (i := 1597) rfl rfl
set_option maxRecDepth 100000 in
theorem tg_l9 : Cond.methodLink "java/lang/StringLatin1" 9 tn_cki ∈ gt := ckW_of (i := 1600) rfl rfl
set_option maxRecDepth 100000 in
theorem tg_l1059 : Cond.methodLink "java/lang/String" 1059 tn_pck ∈ gt := ckW_of (i := 1603) rfl rfl
set_option maxRecDepth 100000 in
theorem tg_f9 : Cond.fieldLink "java/lang/String" 9 "java/lang/String" "value" "[B" ∈ gt := ckW_of (i := 2047) rfl rfl
set_option maxRecDepth 100000 in
theorem tg_f15 : Cond.fieldLink "java/lang/String" 15 "java/lang/String" "coder" "B" ∈ gt := ckW_of (i := 2048) rfl rfl
def TxS (z0 a av : Nat) (tx : List Int32) (U : State) (H : Heap) : Prop :=
  va_O "java/lang/String" a (fun q => z0 ≤ q) U H ∧ va_OF "java/lang/String" "coder" "B" (.int 0) a (fun q => z0 ≤ q) U H ∧ va_OF "java/lang/String" "value" "[B" (.ref av) a (fun q => z0 ≤ q) U H ∧ va_T .byte av tx.length (fun j => .int (tx.getD j 0)) (fun q => z0 ≤ q) U H
def TxC (z0 : Nat) (U : State) (H : Heap) : Prop := va_Z "java/lang/String" "COMPACT_STRINGS" "Z" (.int 1) (fun q => z0 ≤ q) U H ∧ va_Zq "jdk/internal/util/Preconditions" "SIOOBE_FORMATTER" "Ljava/util/function/BiFunction;" (fun q => z0 ≤ q) U H
def e_tok (tx : List Int32) : Bool := Nat.blt 0 tx.length && Nat.blt tx.length 100 && tx.all (fun b => decide (0 ≤ b) && decide (b < 128))
def TS (z0 a av : Nat) (tx : List Int32) (U : State) : Prop := TxS z0 a av tx U U.heap ∧ TxC z0 U U.heap ∧ e_tok tx = true
theorem TxS.mv {z0 a av : Nat} {tx : List Int32} {s U : State} (h : TxS z0 a av tx s s.heap) (hv : s.vm.Alike U.vm) (hk : ∀ q : Nat, q < s.heap.size → ¬ z0 ≤ q → U.heap[q]? = s.heap[q]?) : TxS z0 a av tx U U.heap :=
  ⟨(va_O.moved hv h.1).kept hk, (va_OF.moved hv h.2.1).kept hk, (va_OF.moved hv h.2.2.1).kept hk, (va_T.moved hv h.2.2.2).kept hk⟩
theorem TxC.mv {z0 : Nat} {s U : State} (h : TxC z0 s s.heap) (hv : s.vm.Alike U.vm) (hk : ∀ q : Nat, q < s.heap.size → ¬ z0 ≤ q → U.heap[q]? = s.heap[q]?) : TxC z0 U U.heap :=
  ⟨(va_Z.moved hv h.1).kept hk, (va_Zq.moved hv h.2).kept hk⟩
theorem TS.mv {z0 a av : Nat} {tx : List Int32} {s U : State} (h : TS z0 a av tx s) (hv : s.vm.Alike U.vm) (hk : ∀ q : Nat, q < s.heap.size → ¬ z0 ≤ q → U.heap[q]? = s.heap[q]?) : TS z0 a av tx U := ⟨h.1.mv hv hk, h.2.1.mv hv hk, h.2.2⟩
abbrev tQ (r : Option Value) : Array Value → State → Outcome → State → Prop := fun _ st o t => o = .returned r ∧ t.heap = st.heap
abbrev tP (z0 a av : Nat) (tx : List Int32) (vs : List Value) : Array Value → State → Prop := fun w U => w = vs.toArray ∧ TS z0 a av tx U
theorem tP_blind {z0 a av : Nat} {tx : List Int32} {vs : List Value} : FrameBlind (tP z0 a av tx vs) := fun w U gf mk q => ⟨q.1, TS.mv (U := U.calling gf mk w) q.2 (Vm.Alike.refl U.vm) (fun _ _ _ => rfl)⟩
def tMet (l : Launch) (z0 a av : Nat) (tx : List Int32) (y : MethodName) (cc : ByteArray) (maxL : Nat) (ret : Option FieldType) (d : Nat) (vs : List Value) (r : Option Value) : Prop :=
  Met l y (Cond.code y cc maxL ret :: gt) (rmOf d 0 0) (tP z0 a av tx vs) (tQ r) 0 0 (fun _ => False)
def tB (z0 a av : Nat) (tx : List Int32) (own : String) (cc : ByteArray) (maxL : Nat) (ret : Option FieldType) (p : Program) (s : State) (m : MethodId) (args : Array Value) (meth : Method) (c : Code) : Prop :=
  p.tables.exec = Jvm.exec ∧ c.code = cc ∧ meth.sig.returnType = ret ∧ meth.locks = false ∧ c.maxLocals = maxL ∧ s.vm.findClass own = some m.cls ∧ (∀ w ∈ gt, w.before args s = true) ∧ TS z0 a av tx s
theorem tMet.of {l : Launch} {z0 a av : Nat} {tx : List Int32} {y : MethodName} {cc : ByteArray} {maxL : Nat} {ret : Option FieldType} {d : Nat} {vs : List Value} {r : Option Value} (hy : plainName y.cls = true) (hsum : (vs.map fun v => v.category).sum ≤ maxL)
    (body : ∀ (p : Program) (e : Env) (s : State) (m : MethodId) (args : Array Value) (below : List Frame) (meth : Method) (c : Code) (ls : Array Slot), tB z0 a av tx y.cls cc maxL ret p s m args meth c → lv_has ls maxL (lv_args 0 vs) →
      W p l e (rmOf d 0 0) s m args below meth c s.heap [] 0 0 (MQ below (tQ r) args s 0 0 (fun _ => False)) (F0 m 0 ls [])) : tMet l z0 a av tx y cc maxL ret d vs r := by
  refine Met.ofW (cc := cc) (maxL := maxL) (ret := ret) hy rfl ?_
  intro p e s m args below meth c s₁ B hml hv0
  obtain ⟨rfl, hT⟩ := hv0
  have hts := atoms_spec (ws := Cond.code y cc maxL ret :: gt) B.pre
  have hown : s.vm.findClass y.cls = some m.cls := findClass_of_methodNamed B.named
  have hl := lv_entry vs (n := maxL) (by rw [lg_len]; exact hsum)
  rw [lg_entry_eq]
  generalize (lg_sl vs ++ List.replicate (maxL - (lg_sl vs).length) Slot.unset).toArray = ls at hl ⊢
  exact body p e s m _ below meth c ls ⟨B.exec, B.bytes, B.returns, B.notSynchronized, hml, hown, fun w hw => hts w (List.mem_cons_of_mem _ hw), hT⟩ hl
section TXC
variable {p : Program} {l : Launch} {e : Env} {R : Room} {s : State} {m : MethodId} {args : Array Value} {below : List Frame} {meth : Method} {c : Code} {H : Heap} {locs : List Loc} {cells slots : Nat} {Q : State → Prop} {ls : Array Slot} {pc : Nat}
theorem t_run {st0 rest : List Value} {r : Option Value} (hr : va_Run p l e R s m args below meth c H locs cells slots 0 0 (F0 m pc ls st0) rest (fun st o t => o = .returned r ∧ t.heap = st.heap) (fun _ => False)) (kk : W p l e R s m args below meth c H locs cells slots Q (F0 m (pc + 3) ls (r.toList ++ rest))) : W p l e R s m args below meth c H locs cells slots Q (F0 m pc ls st0) := by
  intro T hT X
  obtain ⟨v, st₀, t, T', Lq, h0, X', hL, e1, e2, ⟨hv, hh⟩, st⟩ := hr T hT X
  have hv2 : v = r := by injection hv
  subst hv2
  have hL0 : Lq = [] := List.eq_nil_iff_forall_not_mem.mpr (fun q hq => hL q hq)
  subst hL0
  rw [List.append_nil] at X'
  obtain ⟨t2, a1, b1⟩ := kk T' (by rw [e1, hh, h0]) X'
  exact ⟨t2, st t2 a1, b1⟩
variable {z0 a av : Nat} {tx : List Int32} {own : String} {y : MethodName} {cc cc' : ByteArray} {maxL nL d n ix : Nat} {ret : Option FieldType} {vs rest : List Value} {r : Option Value}
theorem t_pay (hts : ∀ w ∈ gt, w.before args s = true) (hcode : Cond.code y cc' maxL ret ∈ gt) : ∀ w ∈ (Cond.code y cc' maxL ret :: gt), ∀ (a' : Array Value) (U : State), s.WarmedH U.vm → w.before a' U = true := by
  intro w hw a' U hW
  rcases List.mem_cons.mp hw with rfl | hw
  · exact gt_pay hts hW _ hcode
  · exact gt_pay hts hW _ hw
theorem t_callS (hx : p.tables.exec = Jvm.exec) (hb : c.code = cc) (hml : c.maxLocals = nL) (hown : s.vm.findClass own = some m.cls) (hts : ∀ w ∈ gt, w.before args s = true) (hT : ∀ U : State, U.heap = H → s.WarmedH U.vm → TS z0 a av tx U)
    (hM : tMet l z0 a av tx y cc' maxL ret d vs r) (hcode : Cond.code y cc' maxL ret ∈ gt) (hlink : Cond.methodLink own ix y ∈ gt) (hst : Cond.static y ∈ gt) (hini : Cond.initialized y.cls ∈ gt) (hck : ckD y n = true) (hn : vs.length = n) (hls : ls.size = nL) (hcat : (rest.map fun v => v.category).sum ≤ 8)
    (hf : d + 1 ≤ R.frames) (hlo : 41 * (d + 1) ≤ R.locals) (hm : maxL ≤ 20) (hc : cells ≤ R.cells) (hs : slots ≤ R.slots) (hd : decode cc pc = .ok (.invokestatic ix, 3))
    (kk : W p l e R s m args below meth c H locs cells slots Q (F0 m (pc + 3) ls (r.toList ++ rest))) : W p l e R s m args below meth c H locs cells slots Q (F0 m pc ls (vs.reverse ++ rest)) := by
  obtain ⟨d1, d2⟩ := ckD_inv hck
  exact t_run (r := r) (va_runS (As := vs) (rest := rest) ⟨hx, hb, hml, hown, hts⟩ hM ⟨⟨rfl, rfl, hf, by show 8 + (maxL + 11) + 41 * d ≤ _; omega, t_pay hts hcode, List.mem_cons_self, hts _ hcode, hts _ hini, d2, d1, hts _ hlink⟩, hts _ hst⟩ ⟨tP_blind, fun U hU hW => ⟨rfl, hT U hU hW⟩⟩ rfl hn hls rfl (lv_room hcat) hd ⟨by omega, by omega⟩) kk
theorem t_callV {b : Nat} (hx : p.tables.exec = Jvm.exec) (hb : c.code = cc) (hml : c.maxLocals = nL) (hown : s.vm.findClass own = some m.cls) (hts : ∀ w ∈ gt, w.before args s = true) (hT : ∀ U : State, U.heap = H → s.WarmedH U.vm → TS z0 a av tx U) (hrc : ∃ cell : Cell, H[b]? = some cell ∧ cell.vm.isStatics = false ∧ s.vm.findClass "java/lang/String" = some cell.cls)
    (hM : tMet l z0 a av tx y cc' maxL ret d (.ref b :: vs) r) (hcode : Cond.code y cc' maxL ret ∈ gt) (hlink : Cond.methodLink own ix y ∈ gt) (hin : Cond.instanceMethod y ∈ gt) (hse : Cond.selects "java/lang/String" y y ∈ gt) (hini : Cond.initialized y.cls ∈ gt) (hck : ckD y n = true) (hn : vs.length = n) (hls : ls.size = nL) (hcat : (rest.map fun v => v.category).sum ≤ 8)
    (hf : d + 1 ≤ R.frames) (hlo : 41 * (d + 1) ≤ R.locals) (hm : maxL ≤ 20) (hc : cells ≤ R.cells) (hs : slots ≤ R.slots) (hd : decode cc pc = .ok (.invokevirtual ix, 3))
    (kk : W p l e R s m args below meth c H locs cells slots Q (F0 m (pc + 3) ls (r.toList ++ rest))) : W p l e R s m args below meth c H locs cells slots Q (F0 m pc ls (vs.reverse ++ .ref b :: rest)) := by
  obtain ⟨d1, d2⟩ := ckD_inv hck
  exact t_run (r := r) (va_runV (As := vs) (b := b) (C := "java/lang/String") (rest := rest) ⟨hx, hb, hml, hown, hts⟩ hM ⟨⟨rfl, rfl, hf, by show 8 + (maxL + 11) + 41 * d ≤ _; omega, t_pay hts hcode, List.mem_cons_self, hts _ hcode, hts _ hini, d2, d1, hts _ hlink⟩, hts _ hin, hts _ hse⟩ ⟨tP_blind, hrc, fun U hU hW => ⟨rfl, hT U hU hW⟩⟩ rfl hn hls rfl (lv_room hcat) hd ⟨by omega, by omega⟩) kk
end TXC
theorem c_cod {l : Launch} {z0 a av : Nat} {tx : List Int32} {d : Nat} : tMet l z0 a av tx tn_cod tb_cod 1 (some .byte) d [.ref a] (some (.int 0)) := by
  refine tMet.of (by decide +kernel) (by first | exact Nat.le_of_ble_eq_true rfl | decide) (fun p e s m args below meth c ls B hl => ?_)
  obtain ⟨hx, hb, hr, hlk, hml, hown, hts, hT⟩ := B
  have hTU : ∀ U : State, U.heap = s.heap → s.WarmedH U.vm → TS z0 a av tx U := fun U hU hW => hT.mv hW.alike (fun q _ _ => by rw [hU])
  have hS : va_S (fun q => z0 ≤ q) s.heap s.heap [] := va_S.rf
  have hrc := va_Orecv hT.1.1 hS
  refine va_gets (v := .int 1) hx hb hT.2.1.1 hS hown (hts _ tg_f38) (fun _ h => h) (show decode tb_cod 0 = .ok (.getstatic 38, 3) by decide +kernel) ?_
  refine lv_if_eq (tgt := 13) hx hb (show decode tb_cod 3 = .ok (.ifCond .eq 10, 3) by decide +kernel) (by decide) (fun q => absurd q (by decide)) (fun _ => ?_)
  refine lv_aload_n hx hb (show decode tb_cod 6 = .ok (.aload_n 0, 1) by decide +kernel) rfl (lv_at hl 0 rfl) ?_
  refine vk_getf (v := .int 0) hx hb hT.1.2.1 hS hown (hts _ tg_f15) (fun _ h => h) (show decode tb_cod 7 = .ok (.getfield 15, 3) by decide +kernel) ?_
  refine lv_goto (tgt := 14) hx hb (show decode tb_cod 10 = .ok (.goto 4, 3) by decide +kernel) (by decide) ?_
  exact W.zret hx hb hr rfl (fun t ht _ => ⟨rfl, ht⟩) (fun _ h => by cases h) (show decode tb_cod 14 = .ok (.ireturn, 1) by decide +kernel) (hlocks := hlk)
theorem c_lat {l : Launch} {z0 a av : Nat} {tx : List Int32} {d : Nat} : tMet l z0 a av tx tn_lat tb_lat 1 (some .boolean) d [.ref a] (some (.int 1)) := by
  refine tMet.of (by decide +kernel) (by first | exact Nat.le_of_ble_eq_true rfl | decide) (fun p e s m args below meth c ls B hl => ?_)
  obtain ⟨hx, hb, hr, hlk, hml, hown, hts, hT⟩ := B
  have hTU : ∀ U : State, U.heap = s.heap → s.WarmedH U.vm → TS z0 a av tx U := fun U hU hW => hT.mv hW.alike (fun q _ _ => by rw [hU])
  have hS : va_S (fun q => z0 ≤ q) s.heap s.heap [] := va_S.rf
  have hrc := va_Orecv hT.1.1 hS
  refine va_gets (v := .int 1) hx hb hT.2.1.1 hS hown (hts _ tg_f38) (fun _ h => h) (show decode tb_lat 0 = .ok (.getstatic 38, 3) by decide +kernel) ?_
  refine lv_if_eq (tgt := 17) hx hb (show decode tb_lat 3 = .ok (.ifCond .eq 14, 3) by decide +kernel) (by decide) (fun q => absurd q (by decide)) (fun _ => ?_)
  refine lv_aload_n hx hb (show decode tb_lat 6 = .ok (.aload_n 0, 1) by decide +kernel) rfl (lv_at hl 0 rfl) ?_
  refine vk_getf (v := .int 0) hx hb hT.1.2.1 hS hown (hts _ tg_f15) (fun _ h => h) (show decode tb_lat 7 = .ok (.getfield 15, 3) by decide +kernel) ?_
  refine lv_if_ne (tgt := 17) hx hb (show decode tb_lat 10 = .ok (.ifCond .ne 7, 3) by decide +kernel) (by decide) (fun q => absurd rfl q) (fun _ => ?_)
  refine lv_iconst (v := 1) hx hb (show decode tb_lat 13 = .ok (.iconst 1, 1) by decide +kernel) (by decide) ?_
  refine lv_goto (tgt := 18) hx hb (show decode tb_lat 14 = .ok (.goto 4, 3) by decide +kernel) (by decide) ?_
  exact W.zret hx hb hr rfl (fun t ht _ => ⟨rfl, ht⟩) (fun _ h => by cases h) (show decode tb_lat 18 = .ok (.ireturn, 1) by decide +kernel) (hlocks := hlk)
theorem t_in {j N : Nat} (hj : j < N) (hN : N < 2 ^ 31) : vp_in (nI j) N := by
  unfold vp_in
  rw [nI_clamp (by omega)]
  intro q
  rcases q with q | q
  · exact nI_pos (by omega) q
  · omega
theorem t_shr : ∀ n, n < 100 → nI n >>> ((0 : Int32) &&& 31) = nI n := by decide +kernel
theorem e_tok_len {tx : List Int32} (h : e_tok tx = true) : 0 < tx.length ∧ tx.length < 100 := by
  simp only [e_tok, Bool.and_eq_true] at h
  exact ⟨Nat.blt_eq.mp h.1.1, Nat.blt_eq.mp h.1.2⟩
theorem e_tok_at {tx : List Int32} (h : e_tok tx = true) {j : Nat} (hj : j < tx.length) : ∃ n, n < 128 ∧ tx.getD j 0 = nI n := by
  simp only [e_tok, Bool.and_eq_true, List.all_eq_true, decide_eq_true_eq] at h
  have h1 := h.2 (tx.getD j 0) (by rw [List.getD_eq_getElem?_getD, List.getElem?_eq_getElem hj]; exact List.getElem_mem hj)
  obtain ⟨n, h2, h3⟩ := nI_of2 (x := tx.getD j 0) (M := 127) (n := 127) rfl (Int32.not_lt.mpr h1.1) (by have := h1.2; rw [Int32.lt_iff_toInt_lt] at this; rw [Int32.le_iff_toInt_le]; have e1 : (128 : Int32).toInt = 128 := rfl; have e2 : (127 : Int32).toInt = 127 := rfl; omega)
  exact ⟨n, by omega, h3⟩
theorem c_len {l : Launch} {z0 a av : Nat} {tx : List Int32} {d : Nat} : tMet l z0 a av tx tn_len tb_len 1 (some .int) (d + 1) [.ref a] (some (.int (nI tx.length))) := by
  refine tMet.of (by decide +kernel) (by first | exact Nat.le_of_ble_eq_true rfl | decide) (fun p e s m args below meth c ls B hl => ?_)
  obtain ⟨hx, hb, hr, hlk, hml, hown, hts, hT⟩ := B
  have hTU : ∀ U : State, U.heap = s.heap → s.WarmedH U.vm → TS z0 a av tx U := fun U hU hW => hT.mv hW.alike (fun q _ _ => by rw [hU])
  have hS : va_S (fun q => z0 ≤ q) s.heap s.heap [] := va_S.rf
  have hrc := va_Orecv hT.1.1 hS
  refine lv_aload_n hx hb (show decode tb_len 0 = .ok (.aload_n 0, 1) by decide +kernel) rfl (lv_at hl 0 rfl) ?_
  refine vk_getf (v := .ref av) hx hb hT.1.2.2.1 hS hown (hts _ tg_f9) (fun _ h => h) (show decode tb_len 1 = .ok (.getfield 9, 3) by decide +kernel) ?_
  refine va_tlen (N := tx.length) hx hb hT.1.2.2.2 hS rfl (show decode tb_len 4 = .ok (.arraylength, 1) by decide +kernel) ?_
  refine lv_aload_n hx hb (show decode tb_len 5 = .ok (.aload_n 0, 1) by decide +kernel) rfl (lv_at hl 0 rfl) ?_
  refine t_callV (own := "java/lang/String") (b := a) (vs := []) (rest := [.int (Int32.ofNat tx.length)]) hx hb hml hown hts hTU hrc (c_cod) tg_cod_c tg_l335 tg_cod_i tg_cod_s tg_iS tg_cod_d rfl hl.1 (by first | exact Nat.le_of_ble_eq_true rfl | decide) (Nat.le_refl _) (Nat.le_refl _) (by decide) (Nat.le_refl _) (Nat.le_refl _) (show decode tb_len 6 = .ok (.invokevirtual 335, 3) by decide +kernel) ?_
  have hn := (e_tok_len hT.2.2).2
  refine lv_ishr hx hb (show decode tb_len 9 = .ok (.ishr, 1) by decide +kernel) ?_
  have e : Int32.ofNat tx.length >>> ((0 : Int32) &&& 31) = nI tx.length := t_shr _ hn
  rw [e]
  exact W.iret hx hb hr (fun t ht _ => ⟨rfl, ht⟩) (fun _ h => by cases h) (show decode tb_len 10 = .ok (.ireturn, 1) by decide +kernel) (hlocks := hlk)
theorem c_pck {l : Launch} {z0 a av : Nat} {tx : List Int32} {d : Nat} {j n : Nat} {fv : Value} (hj : j < n) (hn : n < 2 ^ 31) (hfv : fv.category = 1) : tMet l z0 a av tx tn_pck tb_pck 3 (some .int) d [.int (nI j), .int (nI n), fv] (some (.int (nI j))) := by
  refine tMet.of (by decide +kernel) (by first | exact Nat.le_of_ble_eq_true rfl | decide | (show 1 + (1 + (fv.category + 0)) ≤ 3; omega)) (fun p e s m args below meth c ls B hl => ?_)
  obtain ⟨hx, hb, hr, hlk, hml, hown, hts, hT⟩ := B
  have hTU : ∀ U : State, U.heap = s.heap → s.WarmedH U.vm → TS z0 a av tx U := fun U hU hW => hT.mv hW.alike (fun q _ _ => by rw [hU])
  have hS : va_S (fun q => z0 ≤ q) s.heap s.heap [] := va_S.rf
  have hrc := va_Orecv hT.1.1 hS
  refine lv_iload_n hx hb (show decode tb_pck 0 = .ok (.iload_n 0, 1) by decide +kernel) rfl (lv_at hl 0 rfl) ?_
  refine lv_if_lt (tgt := 9) hx hb (show decode tb_pck 1 = .ok (.ifCond .lt 8, 3) by decide +kernel) (by decide) (fun q => absurd q (nI_pos (by omega))) (fun _ => ?_)
  refine lv_iload_n hx hb (show decode tb_pck 4 = .ok (.iload_n 0, 1) by decide +kernel) rfl (lv_at hl 0 rfl) ?_
  refine lv_iload_n hx hb (show decode tb_pck 5 = .ok (.iload_n 1, 1) by decide +kernel) rfl (lv_at hl 1 rfl) ?_
  refine lv_icmp_lt (tgt := 16) hx hb (show decode tb_pck 6 = .ok (.if_icmp .lt 10, 3) by decide +kernel) (by decide) (fun _ => ?_) (fun q => absurd (nI_lt hj (by omega)) q)
  refine lv_iload_n hx hb (show decode tb_pck 16 = .ok (.iload_n 0, 1) by decide +kernel) rfl (lv_at hl 0 rfl) ?_
  exact W.iret hx hb hr (fun t ht _ => ⟨rfl, ht⟩) (fun _ h => by cases h) (show decode tb_pck 17 = .ok (.ireturn, 1) by decide +kernel) (hlocks := hlk)
theorem c_cki {l : Launch} {z0 a av : Nat} {tx : List Int32} {d : Nat} {j n : Nat} (hj : j < n) (hn : n < 2 ^ 31) : tMet l z0 a av tx tn_cki tb_cki 2 none (d + 1) [.int (nI j), .int (nI n)] none := by
  refine tMet.of (by decide +kernel) (by first | exact Nat.le_of_ble_eq_true rfl | decide) (fun p e s m args below meth c ls B hl => ?_)
  obtain ⟨hx, hb, hr, hlk, hml, hown, hts, hT⟩ := B
  have hTU : ∀ U : State, U.heap = s.heap → s.WarmedH U.vm → TS z0 a av tx U := fun U hU hW => hT.mv hW.alike (fun q _ _ => by rw [hU])
  have hS : va_S (fun q => z0 ≤ q) s.heap s.heap [] := va_S.rf
  have hrc := va_Orecv hT.1.1 hS
  refine lv_iload_n hx hb (show decode tb_cki 0 = .ok (.iload_n 0, 1) by decide +kernel) rfl (lv_at hl 0 rfl) ?_
  refine lv_iload_n hx hb (show decode tb_cki 1 = .ok (.iload_n 1, 1) by decide +kernel) rfl (lv_at hl 1 rfl) ?_
  have key : ∀ fv : Value, fv.category = 1 → W p l e (rmOf (d + 1) 0 0) s m args below meth c s.heap [] 0 0 (MQ below (tQ none) args s 0 0 (fun _ => False)) (F0 m (2 + 3) ls [fv, .int (nI n), .int (nI j)]) := by
    intro fv hfv
    refine t_callS (own := "java/lang/String") (vs := [.int (nI j), .int (nI n), fv]) (rest := []) hx hb hml hown hts hTU (c_pck hj hn hfv) tg_pck_c tg_l1059 tg_pck_s tg_iP tg_pck_d rfl hl.1 (by first | exact Nat.le_of_ble_eq_true rfl | decide) (Nat.le_refl _) (Nat.le_refl _) (by decide) (Nat.le_refl _) (Nat.le_refl _) (show decode tb_cki 5 = .ok (.invokestatic 1059, 3) by decide +kernel) ?_
    refine lv_pop hx hb (show decode tb_cki 8 = .ok (.pop, 1) by decide +kernel) rfl ?_
    exact W.vret hx hb hr (fun t ht _ => ⟨rfl, ht⟩) (fun _ h => by cases h) (show decode tb_cki 9 = .ok (.return_, 1) by decide +kernel) (hlocks := hlk)
  rcases hT.2.1.2 with hz | ⟨t0, hz⟩
  · exact va_gets (v := .null) hx hb hz hS hown (hts _ tg_f1053) (fun _ h => h) (show decode tb_cki 2 = .ok (.getstatic 1053, 3) by decide +kernel) (key .null rfl)
  · exact va_gets (v := .ref t0) hx hb hz hS hown (hts _ tg_f1053) (fun _ h => h) (show decode tb_cki 2 = .ok (.getstatic 1053, 3) by decide +kernel) (key (.ref t0) rfl)
theorem t_chr : ∀ n, n < 128 → ((nI n &&& 255).toUInt32 % 65536).toInt32 = nI n ∧ narrow .char (.int (nI n)) = .int (nI n) := by decide +kernel
theorem c_lch {l : Launch} {z0 a av : Nat} {tx : List Int32} {d : Nat} {j : Nat} (hj : j < tx.length) : tMet l z0 a av tx tn_lch tb_lch 2 (some .char) (d + 2) [.ref av, .int (nI j)] (some (.int (tx.getD j 0))) := by
  refine tMet.of (by decide +kernel) (by first | exact Nat.le_of_ble_eq_true rfl | decide) (fun p e s m args below meth c ls B hl => ?_)
  obtain ⟨hx, hb, hr, hlk, hml, hown, hts, hT⟩ := B
  have hTU : ∀ U : State, U.heap = s.heap → s.WarmedH U.vm → TS z0 a av tx U := fun U hU hW => hT.mv hW.alike (fun q _ _ => by rw [hU])
  have hS : va_S (fun q => z0 ≤ q) s.heap s.heap [] := va_S.rf
  have hrc := va_Orecv hT.1.1 hS
  refine lv_iload_n hx hb (show decode tb_lch 0 = .ok (.iload_n 1, 1) by decide +kernel) rfl (lv_at hl 1 rfl) ?_
  refine lv_aload_n hx hb (show decode tb_lch 1 = .ok (.aload_n 0, 1) by decide +kernel) rfl (lv_at hl 0 rfl) ?_
  refine va_tlen (N := tx.length) hx hb hT.1.2.2.2 hS rfl (show decode tb_lch 2 = .ok (.arraylength, 1) by decide +kernel) ?_
  have hn := (e_tok_len hT.2.2).2
  refine t_callS (own := "java/lang/StringLatin1") (vs := [.int (nI j), .int (nI tx.length)]) (rest := []) hx hb hml hown hts hTU (c_cki hj (by omega)) tg_cki_c tg_l9 tg_cki_s tg_iS tg_cki_d rfl hl.1 (by first | exact Nat.le_of_ble_eq_true rfl | decide) (Nat.le_refl _) (Nat.le_refl _) (by decide) (Nat.le_refl _) (Nat.le_refl _) (show decode tb_lch 3 = .ok (.invokestatic 9, 3) by decide +kernel) ?_
  refine lv_aload_n hx hb (show decode tb_lch 6 = .ok (.aload_n 0, 1) by decide +kernel) rfl (lv_at hl 0 rfl) ?_
  refine lv_iload_n hx hb (show decode tb_lch 7 = .ok (.iload_n 1, 1) by decide +kernel) rfl (lv_at hl 1 rfl) ?_
  refine va_tb (N := tx.length) (v := .int (tx.getD j 0)) hx hb hT.1.2.2.2 hS (t_in hj (by omega)) (by rw [nI_clamp (by omega)]) (show decode tb_lch 8 = .ok (.baload, 1) by decide +kernel) ?_
  refine lv_sipush (v := 255) hx hb (show decode tb_lch 9 = .ok (.sipush 255, 3) by decide +kernel) (by decide) ?_
  refine lv_iand hx hb (show decode tb_lch 12 = .ok (.iand, 1) by decide +kernel) ?_
  obtain ⟨n, hn1, hn2⟩ := e_tok_at hT.2.2 hj
  rw [hn2]
  refine lv_i2c (v := nI n) hx hb (show decode tb_lch 13 = .ok (.i2c, 1) by decide +kernel) (t_chr n hn1).1 ?_
  exact W.zret hx hb hr (t_chr n hn1).2 (fun t ht _ => ⟨rfl, ht⟩) (fun _ h => by cases h) (show decode tb_lch 14 = .ok (.ireturn, 1) by decide +kernel) (hlocks := hlk)
theorem c_chr {l : Launch} {z0 a av : Nat} {tx : List Int32} {d : Nat} {j : Nat} (hj : j < tx.length) : tMet l z0 a av tx tn_chr tb_chr 2 (some .char) (d + 3) [.ref a, .int (nI j)] (some (.int (tx.getD j 0))) := by
  refine tMet.of (by decide +kernel) (by first | exact Nat.le_of_ble_eq_true rfl | decide) (fun p e s m args below meth c ls B hl => ?_)
  obtain ⟨hx, hb, hr, hlk, hml, hown, hts, hT⟩ := B
  have hTU : ∀ U : State, U.heap = s.heap → s.WarmedH U.vm → TS z0 a av tx U := fun U hU hW => hT.mv hW.alike (fun q _ _ => by rw [hU])
  have hS : va_S (fun q => z0 ≤ q) s.heap s.heap [] := va_S.rf
  have hrc := va_Orecv hT.1.1 hS
  refine lv_aload_n hx hb (show decode tb_chr 0 = .ok (.aload_n 0, 1) by decide +kernel) rfl (lv_at hl 0 rfl) ?_
  refine t_callV (own := "java/lang/String") (b := a) (vs := []) (rest := []) hx hb hml hown hts hTU hrc (c_lat) tg_lat_c tg_l492 tg_lat_i tg_lat_s tg_iS tg_lat_d rfl hl.1 (by first | exact Nat.le_of_ble_eq_true rfl | decide) (Nat.le_refl _) (Nat.le_refl _) (by decide) (Nat.le_refl _) (Nat.le_refl _) (show decode tb_chr 1 = .ok (.invokevirtual 492, 3) by decide +kernel) ?_
  refine lv_if_eq (tgt := 16) hx hb (show decode tb_chr 4 = .ok (.ifCond .eq 12, 3) by decide +kernel) (by decide) (fun q => absurd q (by decide)) (fun _ => ?_)
  refine lv_aload_n hx hb (show decode tb_chr 7 = .ok (.aload_n 0, 1) by decide +kernel) rfl (lv_at hl 0 rfl) ?_
  refine vk_getf (v := .ref av) hx hb hT.1.2.2.1 hS hown (hts _ tg_f9) (fun _ h => h) (show decode tb_chr 8 = .ok (.getfield 9, 3) by decide +kernel) ?_
  refine lv_iload_n hx hb (show decode tb_chr 11 = .ok (.iload_n 1, 1) by decide +kernel) rfl (lv_at hl 1 rfl) ?_
  refine t_callS (own := "java/lang/String") (vs := [.ref av, .int (nI j)]) (rest := []) hx hb hml hown hts hTU (c_lch hj) tg_lch_c tg_l495 tg_lch_s tg_iL tg_lch_d rfl hl.1 (by first | exact Nat.le_of_ble_eq_true rfl | decide) (Nat.le_refl _) (Nat.le_refl _) (by decide) (Nat.le_refl _) (Nat.le_refl _) (show decode tb_chr 12 = .ok (.invokestatic 495, 3) by decide +kernel) ?_
  obtain ⟨n, hn1, hn2⟩ := e_tok_at hT.2.2 hj
  rw [hn2]
  exact W.zret hx hb hr (t_chr n hn1).2 (fun t ht _ => ⟨rfl, ht⟩) (fun _ h => by cases h) (show decode tb_chr 15 = .ok (.ireturn, 1) by decide +kernel) (hlocks := hlk)
theorem c_can {l : Launch} {z0 a av : Nat} {tx : List Int32} {d : Nat} {v : Int32} (h0 : 0 ≤ v) (h1 : v < 256) : tMet l z0 a av tx tn_can tb_can 1 (some .boolean) d [.int v] (some (.int 1)) := by
  refine tMet.of (by decide +kernel) (by first | exact Nat.le_of_ble_eq_true rfl | decide) (fun p e s m args below meth c ls B hl => ?_)
  obtain ⟨hx, hb, hr, hlk, hml, hown, hts, hT⟩ := B
  have hTU : ∀ U : State, U.heap = s.heap → s.WarmedH U.vm → TS z0 a av tx U := fun U hU hW => hT.mv hW.alike (fun q _ _ => by rw [hU])
  have hS : va_S (fun q => z0 ≤ q) s.heap s.heap [] := va_S.rf
  have hrc := va_Orecv hT.1.1 hS
  refine lv_iload_n hx hb (show decode tb_can 0 = .ok (.iload_n 0, 1) by decide +kernel) rfl (lv_at hl 0 rfl) ?_
  refine lv_if_lt (tgt := 15) hx hb (show decode tb_can 1 = .ok (.ifCond .lt 14, 3) by decide +kernel) (by decide) (fun q => absurd q (Int32.not_lt.mpr h0)) (fun _ => ?_)
  refine lv_iload_n hx hb (show decode tb_can 4 = .ok (.iload_n 0, 1) by decide +kernel) rfl (lv_at hl 0 rfl) ?_
  refine lv_sipush (v := 255) hx hb (show decode tb_can 5 = .ok (.sipush 255, 3) by decide +kernel) (by decide) ?_
  refine lv_icmp_gt (tgt := 15) hx hb (show decode tb_can 8 = .ok (.if_icmp .gt 7, 3) by decide +kernel) (by decide) (fun q => absurd q (by rw [Int32.lt_iff_toInt_lt] at h1 ⊢; have e1 : (256 : Int32).toInt = 256 := rfl; have e2 : (255 : Int32).toInt = 255 := rfl; omega)) (fun _ => ?_)
  refine lv_iconst (v := 1) hx hb (show decode tb_can 11 = .ok (.iconst 1, 1) by decide +kernel) (by decide) ?_
  refine lv_goto (tgt := 16) hx hb (show decode tb_can 12 = .ok (.goto 4, 3) by decide +kernel) (by decide) ?_
  exact W.zret hx hb hr rfl (fun t ht _ => ⟨rfl, ht⟩) (fun _ h => by cases h) (show decode tb_can 16 = .ok (.ireturn, 1) by decide +kernel) (hlocks := hlk)
def e_fx (v : Int32) : List Int32 → Nat → Int32
  | [], _ => -1
  | b :: l, k => if b = v then nI k else e_fx v l (k + 1)
theorem e_fx_eq (v : Int32) : ∀ (l : List Int32) (k : Nat), (match l.findIdx? (fun u => u == v) with
    | some j => Int32.ofNat (k + j)
    | none => -1) = e_fx v l k
  | [], k => rfl
  | b :: l, k => by
    have ih := e_fx_eq v l (k + 1)
    rw [List.findIdx?_cons]
    unfold e_fx
    by_cases h : b = v
    · simp [h, nI]
    · rw [if_neg h, ← ih]
      have hb : (b == v) = false := by simp [h]
      simp only [hb, Bool.false_eq_true, if_false]
      cases l.findIdx? (fun u => u == v) with
      | none => rfl
      | some j => simp [Nat.add_assoc, Nat.add_comm 1 j]
theorem t_byte : ∀ n, n < 256 → (n < 128 → (nI n).toInt8.toInt32 = nI n) ∧ (128 ≤ n → (nI n).toInt8.toInt32 < 0) := by decide +kernel
theorem t_cmp {b v : Int32} {n : Nat} (hn : n < 128) (hb : b = nI n) (h0 : 0 ≤ v) (h1 : v < 256) : b = v.toInt8.toInt32 ↔ b = v := by
  obtain ⟨k, h2, h3⟩ := nI_of2 (x := v) (M := 255) (n := 255) rfl (Int32.not_lt.mpr h0) (by rw [Int32.lt_iff_toInt_lt] at h1; rw [Int32.le_iff_toInt_le]; have e1 : (256 : Int32).toInt = 256 := rfl; have e2 : (255 : Int32).toInt = 255 := rfl; omega)
  obtain ⟨q1, q2⟩ := t_byte k (by omega)
  rcases Nat.lt_or_ge k 128 with hk | hk
  · rw [h3, q1 hk]
  · have q3 := q2 hk
    rw [← h3] at q3
    constructor
    · intro q
      rw [← q, hb] at q3
      exact absurd q3 (nI_pos (by omega))
    · intro q
      rw [hb, h3] at q
      have := (nI_eq (by omega) (by omega)).mp q
      omega
theorem c_ioc_loop {l : Launch} {z0 a av : Nat} {tx : List Int32} {d : Nat} {v : Int32} (h0 : 0 ≤ v) (h1 : v < 256) {p : Program} {e : Env} {s : State} {m : MethodId} {args : Array Value} {below : List Frame} {meth : Method} {c : Code} (B : tB z0 a av tx "java/lang/StringLatin1" tb_ioc 6 (some .int) p s m args meth c) :
    ∀ (lt : List Int32) (k : Nat) (ls : Array Slot), tx.drop k = lt → k ≤ tx.length → e_fx v tx 0 = e_fx v lt k → lv_has ls 6 [(5, .int (nI k)), (4, .int v.toInt8.toInt32), (3, .int (nI tx.length)), (0, .ref av)] →
      W p l e (rmOf d 0 0) s m args below meth c s.heap [] 0 0 (MQ below (tQ (some (.int (e_fx v tx 0)))) args s 0 0 (fun _ => False)) (F0 m 7 ls []) := by
  obtain ⟨hx, hb, hr, hlk, hml, hown, hts, hT⟩ := B
  have hS : va_S (fun q => z0 ≤ q) s.heap s.heap [] := va_S.rf
  have hn := (e_tok_len hT.2.2).2
  intro lt
  induction lt with
  | nil =>
    intro k ls hk hkl he hl
    have hk2 : k = tx.length := by
      have := List.drop_eq_nil_iff.mp hk
      omega
    refine lv_iload hx hb (show decode tb_ioc 7 = .ok (.iload 5, 2) by decide +kernel) (lv_at hl 0 rfl) ?_
    refine lv_iload_n hx hb (show decode tb_ioc 9 = .ok (.iload_n 3, 1) by decide +kernel) rfl (lv_at hl 2 rfl) ?_
    refine lv_icmp_ge (tgt := 31) hx hb (show decode tb_ioc 10 = .ok (.if_icmp .ge 21, 3) by decide +kernel) (by decide) (fun _ => ?_) (fun q => absurd (by rw [hk2]; exact Int32.le_refl _) q)
    refine lv_iconst (v := -1) hx hb (show decode tb_ioc 31 = .ok (.iconst (-1), 1) by decide +kernel) (by decide) ?_
    rw [he]
    exact W.iret hx hb hr (fun t ht _ => ⟨rfl, ht⟩) (fun _ h => by cases h) (show decode tb_ioc 32 = .ok (.ireturn, 1) by decide +kernel) (hlocks := hlk)
  | cons b lt ih =>
    intro k ls hk hkl he hl
    have hlt : k < tx.length := by
      rcases Nat.lt_or_ge k tx.length with q | q
      · exact q
      · rw [List.drop_eq_nil_of_le q] at hk; cases hk
    have hbk : tx.getD k 0 = b := by
      have := List.drop_eq_getElem_cons hlt
      rw [hk] at this
      rw [List.getD_eq_getElem?_getD, List.getElem?_eq_getElem hlt]
      exact (List.cons.inj this).1.symm
    have hdk : tx.drop (k + 1) = lt := by
      have := List.drop_eq_getElem_cons hlt
      rw [hk] at this
      exact (List.cons.inj this).2.symm
    obtain ⟨n, hn1, hn2⟩ := e_tok_at hT.2.2 hlt
    rw [hbk] at hn2
    refine lv_iload hx hb (show decode tb_ioc 7 = .ok (.iload 5, 2) by decide +kernel) (lv_at hl 0 rfl) ?_
    refine lv_iload_n hx hb (show decode tb_ioc 9 = .ok (.iload_n 3, 1) by decide +kernel) rfl (lv_at hl 2 rfl) ?_
    refine lv_icmp_ge (tgt := 31) hx hb (show decode tb_ioc 10 = .ok (.if_icmp .ge 21, 3) by decide +kernel) (by decide) (fun q => absurd (nI_lt hlt (by omega)) (Int32.not_lt.mpr q)) (fun _ => ?_)
    refine lv_aload_n hx hb (show decode tb_ioc 13 = .ok (.aload_n 0, 1) by decide +kernel) rfl (lv_at hl 3 rfl) ?_
    refine lv_iload hx hb (show decode tb_ioc 14 = .ok (.iload 5, 2) by decide +kernel) (lv_at hl 0 rfl) ?_
    refine va_tb (N := tx.length) (v := .int b) hx hb hT.1.2.2.2 hS (t_in hlt (by omega)) (by rw [nI_clamp (by omega), hbk]) (show decode tb_ioc 16 = .ok (.baload, 1) by decide +kernel) ?_
    refine lv_iload hx hb (show decode tb_ioc 17 = .ok (.iload 4, 2) by decide +kernel) (lv_at hl 1 rfl) ?_
    refine lv_icmp_ne (tgt := 25) hx hb (show decode tb_ioc 19 = .ok (.if_icmp .ne 6, 3) by decide +kernel) (by decide) (fun q => ?_) (fun q => ?_)
    · have hne : ¬ b = v := fun z => q ((t_cmp hn1 hn2 h0 h1).mpr z)
      refine lv_iinc (k := 0) (v := nI (k + 1)) (lv' := [(5, .int (nI (k + 1))), (4, .int v.toInt8.toInt32), (3, .int (nI tx.length)), (0, .ref av)]) hx hb (show decode tb_ioc 25 = .ok (.iinc 5 1, 3) by decide +kernel) hl rfl (nI_succ k).symm (by decide) rfl (fun ls hl => ?_)
      refine lv_goto (tgt := 7) hx hb (show decode tb_ioc 28 = .ok (.goto (-21), 3) by decide +kernel) (by decide) ?_
      exact ih (k + 1) ls hdk hlt (he.trans (if_neg hne)) hl
    · have hbv : b = v := (t_cmp hn1 hn2 h0 h1).mp q
      refine lv_iload hx hb (show decode tb_ioc 22 = .ok (.iload 5, 2) by decide +kernel) (lv_at hl 0 rfl) ?_
      have he2 : e_fx v tx 0 = nI k := he.trans (if_pos hbv)
      rw [he2]
      exact W.iret hx hb hr (fun t ht _ => ⟨rfl, ht⟩) (fun _ h => by cases h) (show decode tb_ioc 24 = .ok (.ireturn, 1) by decide +kernel) (hlocks := hlk)
theorem c_ioc {l : Launch} {z0 a av : Nat} {tx : List Int32} {d : Nat} {v : Int32} (h0 : 0 ≤ v) (h1 : v < 256) : tMet l z0 a av tx tn_ioc tb_ioc 6 (some .int) d [.ref av, .int v, .int (nI 0), .int (nI tx.length)] (some (.int (e_fx v tx 0))) := by
  refine tMet.of (by decide +kernel) (by first | exact Nat.le_of_ble_eq_true rfl | decide) (fun p e s m args below meth c ls B hl => ?_)
  obtain ⟨hx, hb, hr, hlk, hml, hown, hts, hT⟩ := B
  have hTU : ∀ U : State, U.heap = s.heap → s.WarmedH U.vm → TS z0 a av tx U := fun U hU hW => hT.mv hW.alike (fun q _ _ => by rw [hU])
  have hS : va_S (fun q => z0 ≤ q) s.heap s.heap [] := va_S.rf
  have hrc := va_Orecv hT.1.1 hS
  refine lv_iload_n hx hb (show decode tb_ioc 0 = .ok (.iload_n 1, 1) by decide +kernel) rfl (lv_at hl 1 rfl) ?_
  refine lv_i2b (v := v.toInt8.toInt32) hx hb (show decode tb_ioc 1 = .ok (.i2b, 1) by decide +kernel) rfl ?_
  refine lv_istore (lv' := [(4, .int v.toInt8.toInt32), (0, .ref av), (1, .int v), (2, .int (nI 0)), (3, .int (nI tx.length))]) hx hb (show decode tb_ioc 2 = .ok (.istore 4, 2) by decide +kernel) hl (by decide) rfl (fun ls hl => ?_)
  refine lv_iload_n hx hb (show decode tb_ioc 4 = .ok (.iload_n 2, 1) by decide +kernel) rfl (lv_at hl 3 rfl) ?_
  refine lv_istore (lv' := [(5, .int (nI 0)), (4, .int v.toInt8.toInt32), (0, .ref av), (1, .int v), (2, .int (nI 0)), (3, .int (nI tx.length))]) hx hb (show decode tb_ioc 5 = .ok (.istore 5, 2) by decide +kernel) hl (by decide) rfl (fun ls hl => ?_)
  exact c_ioc_loop h0 h1 ⟨hx, hb, hr, hlk, hml, hown, hts, hT⟩ tx 0 ls rfl (Nat.zero_le _) rfl (lv_sub hl [0, 1, 5, 2] rfl)
theorem c_lix {l : Launch} {z0 a av : Nat} {tx : List Int32} {d : Nat} {v : Int32} (h0 : 0 ≤ v) (h1 : v < 256) : tMet l z0 a av tx tn_lix tb_lix 4 (some .int) (d + 1) [.ref av, .int v, .int (nI 0), .int (nI tx.length)] (some (.int (e_fx v tx 0))) := by
  refine tMet.of (by decide +kernel) (by first | exact Nat.le_of_ble_eq_true rfl | decide) (fun p e s m args below meth c ls B hl => ?_)
  obtain ⟨hx, hb, hr, hlk, hml, hown, hts, hT⟩ := B
  have hTU : ∀ U : State, U.heap = s.heap → s.WarmedH U.vm → TS z0 a av tx U := fun U hU hW => hT.mv hW.alike (fun q _ _ => by rw [hU])
  have hS : va_S (fun q => z0 ≤ q) s.heap s.heap [] := va_S.rf
  have hrc := va_Orecv hT.1.1 hS
  have hn := e_tok_len hT.2.2
  refine lv_iload_n hx hb (show decode tb_lix 0 = .ok (.iload_n 1, 1) by decide +kernel) rfl (lv_at hl 1 rfl) ?_
  refine t_callS (own := "java/lang/StringLatin1") (vs := [.int v]) (rest := []) hx hb hml hown hts hTU (c_can h0 h1) tg_can_c tg_l88 tg_can_s tg_iL tg_can_d rfl hl.1 (by first | exact Nat.le_of_ble_eq_true rfl | decide) (Nat.le_refl _) (Nat.le_refl _) (by decide) (Nat.le_refl _) (Nat.le_refl _) (show decode tb_lix 1 = .ok (.invokestatic 88, 3) by decide +kernel) ?_
  refine lv_if_ne (tgt := 9) hx hb (show decode tb_lix 4 = .ok (.ifCond .ne 5, 3) by decide +kernel) (by decide) (fun _ => ?_) (fun q => absurd q (by decide))
  refine lv_iload_n hx hb (show decode tb_lix 9 = .ok (.iload_n 2, 1) by decide +kernel) rfl (lv_at hl 2 rfl) ?_
  refine lv_iconst (v := 0) hx hb (show decode tb_lix 10 = .ok (.iconst 0, 1) by decide +kernel) (by decide) ?_
  refine va_mmax (rest := []) hx hb (hml.trans hl.1.symm) hown (hts _ tg_l92) (hts _ gt_xs) (hts _ gt_mi) (hts _ gt_xc) (by show 1 ≤ d + 1; omega) (by show 0 + 13 ≤ 41 * (d + 1); omega) (Nat.le_refl _) (Nat.le_refl _) (show decode tb_lix 11 = .ok (.invokestatic 92, 3) by decide +kernel) ?_
  rw [show (if (nI 0 : Int32) < 0 then (0 : Int32) else nI 0) = nI 0 from rfl]
  refine lv_istore_n (lv' := [(2, .int (nI 0)), (0, .ref av), (1, .int v), (3, .int (nI tx.length))]) hx hb (show decode tb_lix 14 = .ok (.istore_n 2, 1) by decide +kernel) rfl hl (by decide) rfl (fun ls hl => ?_)
  refine lv_iload_n hx hb (show decode tb_lix 15 = .ok (.iload_n 3, 1) by decide +kernel) rfl (lv_at hl 3 rfl) ?_
  refine lv_aload_n hx hb (show decode tb_lix 16 = .ok (.aload_n 0, 1) by decide +kernel) rfl (lv_at hl 1 rfl) ?_
  refine va_tlen (N := tx.length) hx hb hT.1.2.2.2 hS rfl (show decode tb_lix 17 = .ok (.arraylength, 1) by decide +kernel) ?_
  refine va_mmin (rest := []) hx hb (hml.trans hl.1.symm) hown (hts _ tg_l38) (hts _ gt_ns) (hts _ gt_mi) (hts _ gt_nc) (by show 1 ≤ d + 1; omega) (by show 0 + 13 ≤ 41 * (d + 1); omega) (Nat.le_refl _) (Nat.le_refl _) (show decode tb_lix 18 = .ok (.invokestatic 38, 3) by decide +kernel) ?_
  rw [show (if Int32.ofNat tx.length < nI tx.length then Int32.ofNat tx.length else nI tx.length) = nI tx.length from ite_self _]
  refine lv_istore_n (lv' := [(3, .int (nI tx.length)), (2, .int (nI 0)), (0, .ref av), (1, .int v)]) hx hb (show decode tb_lix 21 = .ok (.istore_n 3, 1) by decide +kernel) rfl hl (by decide) rfl (fun ls hl => ?_)
  refine lv_iload_n hx hb (show decode tb_lix 22 = .ok (.iload_n 2, 1) by decide +kernel) rfl (lv_at hl 1 rfl) ?_
  refine lv_iload_n hx hb (show decode tb_lix 23 = .ok (.iload_n 3, 1) by decide +kernel) rfl (lv_at hl 0 rfl) ?_
  refine lv_icmp_lt (tgt := 29) hx hb (show decode tb_lix 24 = .ok (.if_icmp .lt 5, 3) by decide +kernel) (by decide) (fun _ => ?_) (fun q => absurd (nI_lt hn.1 (by omega)) q)
  refine lv_aload_n hx hb (show decode tb_lix 29 = .ok (.aload_n 0, 1) by decide +kernel) rfl (lv_at hl 2 rfl) ?_
  refine lv_iload_n hx hb (show decode tb_lix 30 = .ok (.iload_n 1, 1) by decide +kernel) rfl (lv_at hl 3 rfl) ?_
  refine lv_iload_n hx hb (show decode tb_lix 31 = .ok (.iload_n 2, 1) by decide +kernel) rfl (lv_at hl 1 rfl) ?_
  refine lv_iload_n hx hb (show decode tb_lix 32 = .ok (.iload_n 3, 1) by decide +kernel) rfl (lv_at hl 0 rfl) ?_
  refine t_callS (own := "java/lang/StringLatin1") (vs := [.ref av, .int v, .int (nI 0), .int (nI tx.length)]) (rest := []) hx hb hml hown hts hTU (c_ioc h0 h1) tg_ioc_c tg_l95 tg_ioc_s tg_iL tg_ioc_d rfl hl.1 (by first | exact Nat.le_of_ble_eq_true rfl | decide) (Nat.le_refl _) (Nat.le_refl _) (by decide) (Nat.le_refl _) (Nat.le_refl _) (show decode tb_lix 33 = .ok (.invokestatic 95, 3) by decide +kernel) ?_
  exact W.iret hx hb hr (fun t ht _ => ⟨rfl, ht⟩) (fun _ h => by cases h) (show decode tb_lix 36 = .ok (.ireturn, 1) by decide +kernel) (hlocks := hlk)
theorem c_ixb {l : Launch} {z0 a av : Nat} {tx : List Int32} {d : Nat} {v : Int32} (h0 : 0 ≤ v) (h1 : v < 256) : tMet l z0 a av tx tn_ixb tb_ixb 3 (some .int) (d + 2) [.ref a, .int v, .int (nI 0)] (some (.int (e_fx v tx 0))) := by
  refine tMet.of (by decide +kernel) (by first | exact Nat.le_of_ble_eq_true rfl | decide) (fun p e s m args below meth c ls B hl => ?_)
  obtain ⟨hx, hb, hr, hlk, hml, hown, hts, hT⟩ := B
  have hTU : ∀ U : State, U.heap = s.heap → s.WarmedH U.vm → TS z0 a av tx U := fun U hU hW => hT.mv hW.alike (fun q _ _ => by rw [hU])
  have hS : va_S (fun q => z0 ≤ q) s.heap s.heap [] := va_S.rf
  have hrc := va_Orecv hT.1.1 hS
  refine lv_aload_n hx hb (show decode tb_ixb 0 = .ok (.aload_n 0, 1) by decide +kernel) rfl (lv_at hl 0 rfl) ?_
  refine t_callV (own := "java/lang/String") (b := a) (vs := []) (rest := []) hx hb hml hown hts hTU hrc (c_lat) tg_lat_c tg_l492 tg_lat_i tg_lat_s tg_iS tg_lat_d rfl hl.1 (by first | exact Nat.le_of_ble_eq_true rfl | decide) (Nat.le_refl _) (Nat.le_refl _) (by decide) (Nat.le_refl _) (Nat.le_refl _) (show decode tb_ixb 1 = .ok (.invokevirtual 492, 3) by decide +kernel) ?_
  refine lv_if_eq (tgt := 23) hx hb (show decode tb_ixb 4 = .ok (.ifCond .eq 19, 3) by decide +kernel) (by decide) (fun q => absurd q (by decide)) (fun _ => ?_)
  refine lv_aload_n hx hb (show decode tb_ixb 7 = .ok (.aload_n 0, 1) by decide +kernel) rfl (lv_at hl 0 rfl) ?_
  refine vk_getf (v := .ref av) hx hb hT.1.2.2.1 hS hown (hts _ tg_f9) (fun _ h => h) (show decode tb_ixb 8 = .ok (.getfield 9, 3) by decide +kernel) ?_
  refine lv_iload_n hx hb (show decode tb_ixb 11 = .ok (.iload_n 1, 1) by decide +kernel) rfl (lv_at hl 1 rfl) ?_
  refine lv_iload_n hx hb (show decode tb_ixb 12 = .ok (.iload_n 2, 1) by decide +kernel) rfl (lv_at hl 2 rfl) ?_
  refine lv_aload_n hx hb (show decode tb_ixb 13 = .ok (.aload_n 0, 1) by decide +kernel) rfl (lv_at hl 0 rfl) ?_
  refine t_callV (own := "java/lang/String") (b := a) (vs := []) (rest := [.int (nI 0), .int v, .ref av]) hx hb hml hown hts hTU hrc (c_len) tg_len_c tg_l505 tg_len_i tg_len_s tg_iS tg_len_d rfl hl.1 (by first | exact Nat.le_of_ble_eq_true rfl | decide) (Nat.le_refl _) (Nat.le_refl _) (by decide) (Nat.le_refl _) (Nat.le_refl _) (show decode tb_ixb 14 = .ok (.invokevirtual 505, 3) by decide +kernel) ?_
  refine t_callS (own := "java/lang/String") (vs := [.ref av, .int v, .int (nI 0), .int (nI tx.length)]) (rest := []) hx hb hml hown hts hTU (c_lix h0 h1) tg_lix_c tg_l637 tg_lix_s tg_iL tg_lix_d rfl hl.1 (by first | exact Nat.le_of_ble_eq_true rfl | decide) (Nat.le_refl _) (Nat.le_refl _) (by decide) (Nat.le_refl _) (Nat.le_refl _) (show decode tb_ixb 17 = .ok (.invokestatic 637, 3) by decide +kernel) ?_
  refine lv_goto (tgt := 36) hx hb (show decode tb_ixb 20 = .ok (.goto 16, 3) by decide +kernel) (by decide) ?_
  exact W.iret hx hb hr (fun t ht _ => ⟨rfl, ht⟩) (fun _ h => by cases h) (show decode tb_ixb 36 = .ok (.ireturn, 1) by decide +kernel) (hlocks := hlk)
theorem c_ixa {l : Launch} {z0 a av : Nat} {tx : List Int32} {d : Nat} {v : Int32} (h0 : 0 ≤ v) (h1 : v < 256) : tMet l z0 a av tx tn_ixa tb_ixa 2 (some .int) (d + 3) [.ref a, .int v] (some (.int (e_fx v tx 0))) := by
  refine tMet.of (by decide +kernel) (by first | exact Nat.le_of_ble_eq_true rfl | decide) (fun p e s m args below meth c ls B hl => ?_)
  obtain ⟨hx, hb, hr, hlk, hml, hown, hts, hT⟩ := B
  have hTU : ∀ U : State, U.heap = s.heap → s.WarmedH U.vm → TS z0 a av tx U := fun U hU hW => hT.mv hW.alike (fun q _ _ => by rw [hU])
  have hS : va_S (fun q => z0 ≤ q) s.heap s.heap [] := va_S.rf
  have hrc := va_Orecv hT.1.1 hS
  refine lv_aload_n hx hb (show decode tb_ixa 0 = .ok (.aload_n 0, 1) by decide +kernel) rfl (lv_at hl 0 rfl) ?_
  refine lv_iload_n hx hb (show decode tb_ixa 1 = .ok (.iload_n 1, 1) by decide +kernel) rfl (lv_at hl 1 rfl) ?_
  refine lv_iconst (v := 0) hx hb (show decode tb_ixa 2 = .ok (.iconst 0, 1) by decide +kernel) (by decide) ?_
  refine t_callV (own := "java/lang/String") (b := a) (vs := [.int v, .int (nI 0)]) (rest := []) hx hb hml hown hts hTU hrc (c_ixb h0 h1) tg_ixb_c tg_l633 tg_ixb_i tg_ixb_s tg_iS tg_ixb_d rfl hl.1 (by first | exact Nat.le_of_ble_eq_true rfl | decide) (Nat.le_refl _) (Nat.le_refl _) (by decide) (Nat.le_refl _) (Nat.le_refl _) (show decode tb_ixa 3 = .ok (.invokevirtual 633, 3) by decide +kernel) ?_
  exact W.iret hx hb hr (fun t ht _ => ⟨rfl, ht⟩) (fun _ h => by cases h) (show decode tb_ixa 6 = .ok (.ireturn, 1) by decide +kernel) (hlocks := hlk)
