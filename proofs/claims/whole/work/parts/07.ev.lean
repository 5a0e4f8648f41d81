/-! THE PURE MACHINE. A heap is a list of cells; the ref 32 + i is its i-th cell; refs below 32 are things that are only read (0: the script; 1 to 7: the static arrays; 16 on: texts). ev runs the bytecode of the tables pL on it. -/
abbrev aA : Type := (Nat → Int32) ⊕ (Nat → Int64) ⊕ (Nat → Option Nat)
abbrev aE : Type := (Nat × Nat × aA) ⊕ (Nat × List Value)
abbrev aH : Type := List aE
abbrev aL : Type := List (Nat × Value)
abbrev aR : Type := Option (Option Value × aH)
abbrev aK : Type := Nat → Nat → Nat → aL → List Value → aH → aR
abbrev aS : Type := Nat × (Nat → Int32)
noncomputable def pT (mid pc : Nat) : Option aI := ((pL mid).find? (fun q => q.1 == pc)).map (fun q => q.2.1)
def e_ld (L : aL) (i : Nat) : Option Value := (L.find? (fun q => q.1 == i)).map (fun q => q.2)
def e_st1 (L : aL) (i : Nat) (v : Value) : aL := (i, v) :: L.filter (fun q => !(q.1 == i))
/-- no long or double ends in the place i -/
def e_nl (L : aL) (i : Nat) : Bool := match i with
  | 0 => true
  | j + 1 => (match e_ld L j with
    | some v => Nat.beq v.category 1
    | none => true)
def e_b (f : Int32 → Int32 → Value) (S : List Value) : Option (List Value) := match S with
  | .int y :: .int x :: r => some (f x y :: r)
  | _ => none
def e_bz (f : Int32 → Int32 → Value) (S : List Value) : Option (List Value) := match S with
  | .int y :: .int x :: r => if y = 0 then none else some (f x y :: r)
  | _ => none
def e_u (f : Int32 → Value) (S : List Value) : Option (List Value) := match S with
  | .int x :: r => some (f x :: r)
  | _ => none
def e_uj (f : Int64 → Value) (S : List Value) : Option (List Value) := match S with
  | .long x :: r => some (f x :: r)
  | _ => none
def e_j (f : Int64 → Int64 → Value) (S : List Value) : Option (List Value) := match S with
  | .long y :: .long x :: r => some (f x y :: r)
  | _ => none
def e_jz (f : Int64 → Int64 → Value) (S : List Value) : Option (List Value) := match S with
  | .long y :: .long x :: r => if y = 0 then none else some (f x y :: r)
  | _ => none
def e_js (f : Int64 → Int32 → Value) (S : List Value) : Option (List Value) := match S with
  | .int y :: .long x :: r => some (f x y :: r)
  | _ => none
def e_dup (S : List Value) : Option (List Value) := match S with
  | .int x :: r => some (.int x :: .int x :: r)
  | .ref x :: r => some (.ref x :: .ref x :: r)
  | _ => none
def e_dup2 (S : List Value) : Option (List Value) := match S with
  | .int x :: .ref y :: r => some (.int x :: .ref y :: .int x :: .ref y :: r)
  | .int x :: .int y :: r => some (.int x :: .int y :: .int x :: .int y :: r)
  | _ => none
def e_pop (S : List Value) : Option (List Value) := match S with
  | .int _ :: r => some r
  | .ref _ :: r => some r
  | _ => none
/-- instructions on the stack alone -/
def e_op (i : Instr) (S : List Value) : Option (List Value) := match i with
  | .iconst n => some (.int (Int32.ofInt n) :: S)
  | .bipush n => some (.int (Int32.ofInt n) :: S)
  | .sipush n => some (.int (Int32.ofInt n) :: S)
  | .lconst n => some (.long (Int64.ofNat n.val) :: S)
  | .aconst_null => some (.null :: S)
  | .iadd => e_b (fun x y => .int (x + y)) S
  | .isub => e_b (fun x y => .int (x - y)) S
  | .imul => e_b (fun x y => .int (x * y)) S
  | .iand => e_b (fun x y => .int (x &&& y)) S
  | .ior => e_b (fun x y => .int (x ||| y)) S
  | .ixor => e_b (fun x y => .int (x ^^^ y)) S
  | .ishl => e_b (fun x y => .int (x <<< (y &&& 31))) S
  | .ishr => e_b (fun x y => .int (x >>> (y &&& 31))) S
  | .iushr => e_b (fun x y => .int (x.toUInt32 >>> (y.toUInt32 &&& Int32.toUInt32 31)).toInt32) S
  | .idiv => e_bz (fun x y => .int (x / y)) S
  | .irem => e_bz (fun x y => .int (x - x / y * y)) S
  | .i2l => e_u (fun x => .long x.toInt64) S
  | .i2b => e_u (fun x => .int x.toInt8.toInt32) S
  | .i2c => e_u (fun x => .int (x.toUInt32 % 65536).toInt32) S
  | .l2i => e_uj (fun x => .int x.toInt32) S
  | .ladd => e_j (fun x y => .long (x + y)) S
  | .lmul => e_j (fun x y => .long (x * y)) S
  | .land => e_j (fun x y => .long (x &&& y)) S
  | .lor => e_j (fun x y => .long (x ||| y)) S
  | .lrem => e_jz (fun x y => .long (x - x / y * y)) S
  | .lcmp => e_j (fun x y => .int (lg_cmp x y)) S
  | .lshl => e_js (fun x y => .long (x <<< (y.toInt64 &&& 63))) S
  | .lushr => e_js (fun x y => .long (x.toUInt64 >>> (y.toInt64.toUInt64 &&& Int64.toUInt64 63)).toInt64) S
  | .dup => e_dup S
  | .dup2 => e_dup2 S
  | .pop => e_pop S
  | _ => none
def e_cmp (c : ClassFile.Cond) (x y : Int32) : Bool := match c with
  | .eq => decide (x = y)
  | .ne => decide (¬ x = y)
  | .lt => decide (x < y)
  | .ge => decide (y ≤ x)
  | .gt => decide (y < x)
  | .le => decide (x ≤ y)
/-- branches: taken or not, and the rest of the stack -/
def e_br (i : Instr) (S : List Value) : Option (Bool × List Value) := match i with
  | .ifCond c _ => (match S with
    | .int x :: r => some (e_cmp c x 0, r)
    | _ => none)
  | .if_icmp c _ => (match S with
    | .int y :: .int x :: r => some (e_cmp c x y, r)
    | _ => none)
  | .ifnull _ => (match S with
    | .null :: r => some (true, r)
    | .ref _ :: r => some (false, r)
    | _ => none)
  | .ifnonnull _ => (match S with
    | .null :: r => some (false, r)
    | .ref _ :: r => some (true, r)
    | _ => none)
  | .goto _ => some (true, S)
  | _ => none
def e_tg (pc : Nat) (off : Int) : Option Nat := if (0 : Int) ≤ (pc : Int) + off then some ((pc : Int) + off).toNat else none
/-- switches: where to -/
def e_sw (pc : Nat) (i : Instr) (S : List Value) : Option (Nat × List Value) := match i with
  | .tableswitch dflt lo hi offs => (match S with
    | .int v :: r => if v.toInt < lo ∨ hi < v.toInt then (e_tg pc dflt).map (fun t => (t, r)) else (match offs[(v.toInt - lo).toNat]? with
      | some off => (e_tg pc off).map (fun t => (t, r))
      | none => none)
    | _ => none)
  | .lookupswitch dflt ps => (match S with
    | .int v :: r => (e_tg pc (Op.lookupswitch.offset ps.toList dflt v.toInt)).map (fun t => (t, r))
    | _ => none)
  | _ => none
/-- loads -/
def e_lo (i : Instr) (L : aL) : Option Value := match i with
  | .iload k => (match e_ld L k with
    | some (.int v) => some (.int v)
    | _ => none)
  | .iload_n k => (match e_ld L k.val with
    | some (.int v) => some (.int v)
    | _ => none)
  | .aload k => (match e_ld L k with
    | some (.ref v) => some (.ref v)
    | _ => none)
  | .aload_n k => (match e_ld L k.val with
    | some (.ref v) => some (.ref v)
    | _ => none)
  | .lload k => (match e_ld L k with
    | some (.long v) => some (.long v)
    | _ => none)
  | .lload_n k => (match e_ld L k.val with
    | some (.long v) => some (.long v)
    | _ => none)
  | _ => none
/-- stores, iinc -/
def e_sto (i : Instr) (L : aL) (S : List Value) : Option (aL × List Value) := match i with
  | .istore k => (match S with
    | .int v :: r => bif e_nl L k then some (e_st1 L k (.int v), r) else none
    | _ => none)
  | .istore_n k => (match S with
    | .int v :: r => bif e_nl L k.val then some (e_st1 L k.val (.int v), r) else none
    | _ => none)
  | .astore k => (match S with
    | .ref v :: r => bif e_nl L k then some (e_st1 L k (.ref v), r) else none
    | _ => none)
  | .astore_n k => (match S with
    | .ref v :: r => bif e_nl L k.val then some (e_st1 L k.val (.ref v), r) else none
    | _ => none)
  | .iinc k n => (match e_ld L k with
    | some (.int v) => bif e_nl L k then some (e_st1 L k (.int (v + Int32.ofInt n)), S) else none
    | _ => none)
  | _ => none
def e_rows : List (List Int32) := [[4, 0, 0, 1, 0], [2, 0, 0, 1, 0], [8, 3, 9, 3, 255], [0, 1, 0, 1], [0, 0, 0, 1], [7, 7, 2, 9], [4, 1, 1, 1, 1, 2, 3]]
/-- arrays that are only read -/
def e_ro (sc : aS) (k : Nat) : Option aS := match k with
  | 0 => some sc
  | k + 1 => (e_rows[k]?).map (fun l => (l.length, fun j => l.getD j 0))
/-- the cell of a ref -/
def e_c (h : aH) (k : Nat) : Option aE := bif Nat.blt k 32 then none else h[k - 32]?
/-- an array of ints, or bytes -/
def e_arr (sc : aS) (h : aH) (a tc : Nat) : Option aS := bif Nat.blt a 32 then (bif Nat.beq tc 0 then e_ro sc a else none) else (match h[a - 32]? with
  | some (.inl (t, n, .inl f)) => bif Nat.beq t tc then some (n, f) else none
  | _ => none)
def e_fit (ty : FieldType) (v : Value) : Bool := match ty, v with
  | .int, .int _ => true
  | .long, .long _ => true
  | .boolean, .int v => v == 0 || v == 1
  | .object _, .ref _ => true
  | .object _, .null => true
  | .array _, .ref _ => true
  | .array _, .null => true
  | _, _ => false
/-- instructions that read the heap: the new stack -/
def e_rd (sc : aS) (i : Instr) (x y : Nat) (S : List Value) (h : aH) : Option (List Value) := match i with
  | .getfield _ => (match S with
    | .ref a :: r => (match e_c h a with
      | some (.inr (ci, fs)) => bif Nat.beq ci x then (fs[y]?).map (fun v => v :: r) else none
      | _ => none)
    | _ => none)
  | .iaload => (match S with
    | .int j :: .ref a :: r => (match e_arr sc h a 0 with
      | some (n, f) => if ¬ (j < 0 ∨ n ≤ j.toNatClampNeg) then some (.int (f j.toNatClampNeg) :: r) else none
      | none => none)
    | _ => none)
  | .baload => (match S with
    | .int j :: .ref a :: r => (match e_arr sc h a 1 with
      | some (n, f) => if ¬ (j < 0 ∨ n ≤ j.toNatClampNeg) then some (.int (f j.toNatClampNeg) :: r) else none
      | none => none)
    | _ => none)
  | .laload => (match S with
    | .int j :: .ref a :: r => (match e_c h a with
      | some (.inl (2, n, .inr (.inl f))) => if ¬ (j < 0 ∨ n ≤ j.toNatClampNeg) then some (.long (f j.toNatClampNeg) :: r) else none
      | _ => none)
    | _ => none)
  | .aaload => (match S with
    | .int j :: .ref a :: r => (match e_c h a with
      | some (.inl (3, n, .inr (.inr f))) => if ¬ (j < 0 ∨ n ≤ j.toNatClampNeg) then some (va_rf (f j.toNatClampNeg) :: r) else none
      | _ => none)
    | _ => none)
  | .arraylength => (match S with
    | .ref a :: r => (match e_arr sc h a 0 with
      | some (n, _) => some (.int (Int32.ofNat n) :: r)
      | none => none)
    | _ => none)
  | .getstatic _ => some (.ref y :: S)
  | .ldc _ => bif Nat.beq x 0 then (pKI[y]?).map (fun v => .int v :: S) else some (.ref y :: S)
  | .ldc_w _ => bif Nat.beq x 0 then (pKI[y]?).map (fun v => .int v :: S) else none
  | .ldc2_w _ => (pKJ[y]?).map (fun v => .long v :: S)
  | _ => none
/-- instructions that write or make cells: the new stack and heap -/
noncomputable def e_wr (i : Instr) (x y : Nat) (S : List Value) (h : aH) : Option (List Value × aH) := match i with
  | .putfield _ => (match S with
    | v :: .ref a :: r => (match e_c h a with
      | some (.inr (ci, fs)) => bif Nat.beq ci x && Nat.blt y fs.length && e_fit (pTy x y) v then some (r, h.set (a - 32) (.inr (ci, fs.set y v))) else none
      | _ => none)
    | _ => none)
  | .iastore => (match S with
    | .int v :: .int j :: .ref a :: r => (match e_c h a with
      | some (.inl (0, n, .inl f)) => if ¬ (j < 0 ∨ n ≤ j.toNatClampNeg) then some (r, h.set (a - 32) (.inl (0, n, .inl (upd f j.toNatClampNeg v)))) else none
      | _ => none)
    | _ => none)
  | .bastore => (match S with
    | .int v :: .int j :: .ref a :: r => (match e_c h a with
      | some (.inl (1, n, .inl f)) => if ¬ (j < 0 ∨ n ≤ j.toNatClampNeg) then some (r, h.set (a - 32) (.inl (1, n, .inl (upd f j.toNatClampNeg (vp_nar .byte v))))) else none
      | _ => none)
    | _ => none)
  | .lastore => (match S with
    | .long v :: .int j :: .ref a :: r => (match e_c h a with
      | some (.inl (2, n, .inr (.inl f))) => if ¬ (j < 0 ∨ n ≤ j.toNatClampNeg) then some (r, h.set (a - 32) (.inl (2, n, .inr (.inl (vp_updL f j.toNatClampNeg v))))) else none
      | _ => none)
    | _ => none)
  | .aastore => (match S with
    | .ref b :: .int j :: .ref a :: r => (match e_c h a with
      | some (.inl (3, n, .inr (.inr f))) => (match e_c h b with
        | some (.inr (ci, _)) => if ¬ (j < 0 ∨ n ≤ j.toNatClampNeg) ∧ (pCl[ci]?).map (fun q => q.1) = some "SlotBuses$Row" then some (r, h.set (a - 32) (.inl (3, n, .inr (.inr (va_up f j.toNatClampNeg (some b)))))) else none
        | _ => none)
      | _ => none)
    | _ => none)
  | .new _ => some (.ref (32 + h.length) :: S, h ++ [.inr (x, pF x)])
  | .newarray _ => (match S with
    | .int n :: r => if ¬ n < 0 ∧ n.toNatClampNeg * 8 ≤ 536870912 then some (.ref (32 + h.length) :: r, h ++ [.inl (x, n.toNatClampNeg, bif Nat.beq x 2 then .inr (.inl (fun _ => 0)) else .inl (fun _ => 0))]) else none
    | _ => none)
  | .anewarray _ => (match S with
    | .int n :: r => if ¬ n < 0 ∧ n.toNatClampNeg * 8 ≤ 536870912 then some (.ref (32 + h.length) :: r, h ++ [.inl (3, n.toNatClampNeg, .inr (.inr (fun _ => none)))]) else none
    | _ => none)
  | _ => none
/-- the end of a method -/
noncomputable def e_ret (mid : Nat) (i : Instr) (S : List Value) : Option (Option Value) := match i with
  | .return_ => (match S, pR mid with
    | [], none => some none
    | _, _ => none)
  | .ireturn => (match S, pR mid with
    | [.int v], some .int => some (some (.int v))
    | [.int v], some .boolean => if v = 0 ∨ v = 1 then some (some (.int v)) else none
    | _, _ => none)
  | _ => none
def e_cat (S : List Value) : Bool := decide ((S.map fun v => v.category).sum ≤ 8)
/-- may the receiver be asked -/
noncomputable def e_rcv (i : Instr) (x : Nat) (av : List Value) (h : aH) : Bool := match i with
  | .invokestatic _ => true
  | .invokespecial _ => (match av with
    | .ref _ :: _ => true
    | _ => false)
  | .invokevirtual _ => (match av with
    | .ref b :: _ => bif Nat.blt 999 x then true else (match e_c h b with
      | some (.inr (ci, _)) => Nat.beq ci (pCi x)
      | _ => false)
    | _ => false)
  | _ => false
def e_txt (k : Nat) : Option (List Int32) := bif Nat.blt k 16 then none else (pSt[k - 16]?).map (fun q => q.2.toList.map (fun c => Int32.ofNat c.toNat))
/-- members of the JDK that have a row of their own -/
def e_int (sc : aS) (x : Nat) (av : List Value) (h : aH) : aR := match x, av with
  | 1000, [.ref _] => some (none, h)
  | 1001, [.int a, .int b] => some (some (.int (if a < b then b else a)), h)
  | 1002, [.int a, .int b] => some (some (.int (if b < a then b else a)), h)
  | 1003, [.ref a, .int sp, .ref b, .int dp, .int n] => (match e_arr sc h a 0, e_c h b with
    | some (n0, f), some (.inl (0, n1, .inl g)) => if ¬ sp < 0 ∧ ¬ dp < 0 ∧ ¬ n < 0 ∧ sp.toNatClampNeg + n.toNatClampNeg ≤ n0 ∧ dp.toNatClampNeg + n.toNatClampNeg ≤ n1 then some (none, h.set (b - 32) (.inl (0, n1, .inl (va_cpy f g sp.toNatClampNeg dp.toNatClampNeg n.toNatClampNeg)))) else none
    | _, _ => none)
  | 1004, [.ref k] => (e_txt k).map (fun t => (some (.int (Int32.ofNat t.length)), h))
  | 1005, [.ref k, .int j] => (match e_txt k with
    | some t => if ¬ (j < 0 ∨ t.length ≤ j.toNatClampNeg) then some (some (.int (t.getD j.toNatClampNeg 0)), h) else none
    | none => none)
  | 1006, [.ref k, .int v] => (match e_txt k with
    | some t => if 0 ≤ v ∧ v < 256 then some (some (.int (match t.findIdx? (fun u => u == v) with
      | some j => Int32.ofNat j
      | none => -1)), h) else none
    | none => none)
  | _, _ => none
/-- the law's own 'line': what SlotBuses.line answers goes into out[0]; where that throws, one cell comes and the answer is 1 -/
noncomputable def e_line (K : aK) (d : Nat) (av : List Value) (h : aH) : aR := match av with
  | [.ref a, .int p0, .int p1, .int p2, .int p3, .ref o] => (match e_c h a with
    | some (.inr (11, fs)) => (match (fs[2]? : Option Value) with
      | some (.ref w) => (match K d 60 0 (lv_args 0 [.ref w, .int p0, .int p1, .int p2]) [] h with
        | some (some (.int b), h0) => if b = 0 ∨ p3 < 0 ∨ 5 < p3 then some (some (.int 1), h0 ++ [.inr (13, [.null, .null, .null, .null, .null, .null])]) else
          (match K d 134 0 (lv_args 0 [.ref a, .int p0, .int p1, .int p2, .int p3]) [] h with
          | some (some (.int v), h1) => (match e_c h1 o with
            | some (.inl (2, n, .inr (.inl f))) => if 0 < n then some (some (.int 0), h1.set (o - 32) (.inl (2, n, .inr (.inl (vp_updL f 0 v.toInt64))))) else none
            | _ => none)
          | _ => none)
        | _ => none)
      | _ => none)
    | _ => none)
  | _ => none
/-- a call -/
noncomputable def e_call (sc : aS) (K : aK) (d mid : Nat) (L : aL) (S : List Value) (h : aH) (i : Instr) (nx x y : Nat) : aR :=
  bif Nat.ble y S.length && e_cat (S.drop y) && e_rcv i x (S.take y).reverse h && (Nat.blt 999 x || Nat.ble ((S.take y).map fun v => v.category).sum (pM x)) then
    (match d with
    | 0 => none
    | d' + 1 => (match (bif Nat.blt x 1000 then K d' x 0 (lv_args 0 (S.take y).reverse) [] h else bif Nat.beq x 1007 then e_line K d' (S.take y).reverse h else bif Nat.blt x 1004 || Nat.ble 8 d' then e_int sc x (S.take y).reverse h else none) with
      | some (v, h') => K (d' + 1) mid nx L (v.toList ++ S.drop y) h'
      | none => none))
  else none
noncomputable def e_go (sc : aS) (K : aK) (d mid pc : Nat) (L : aL) (S : List Value) (h : aH) (i : Instr) (nx x y : Nat) : aR :=
  match e_op i S with
  | some S' => K d mid nx L S' h
  | none => match e_lo i L with
  | some v => K d mid nx L (v :: S) h
  | none => match e_br i S with
  | some (b, S') => bif b then K d mid x L S' h else K d mid nx L S' h
  | none => match e_rd sc i x y S h with
  | some S' => K d mid nx L S' h
  | none => match e_sto i L S with
  | some (L', S') => K d mid nx L' S' h
  | none => match e_wr i x y S h with
  | some (S', h') => K d mid nx L S' h'
  | none => match e_ret mid i S with
  | some v => some (v, h)
  | none => match e_sw pc i S with
  | some (t, S') => K d mid t L S' h
  | none => e_call sc K d mid L S h i nx x y
noncomputable def evS (sc : aS) (K : aK) (d mid pc : Nat) (L : aL) (S : List Value) (h : aH) : aR := match pT mid pc with
  | some (i, nx, x, y) => e_go sc K d mid pc L S h i nx x y
  | none => none
noncomputable def ev (sc : aS) : Nat → aK
  | 0 => fun _ _ _ _ _ _ => none
  | n + 1 => evS sc (ev sc n)
theorem ev_succ (sc : aS) (n : Nat) : ev sc (n + 1) = evS sc (ev sc n) := rfl
