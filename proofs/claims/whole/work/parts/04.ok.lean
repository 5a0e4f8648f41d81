/-! THE TABLES ARE RIGHT: each row of pL is what decode says, and the words that it needs are among the good words of lw_tbl. -/
def goodN (w : Jvm.Cond) : Bool := match w with
  | .fieldLinkNest _ _ _ _ _ _ => true
  | .methodLinkNest _ _ _ _ => true
  | w => goodWord w
def gt : List Jvm.Cond := lw_tbl.filter goodN
theorem gt_mem {w : Jvm.Cond} (h1 : w ∈ lw_tbl) (h2 : goodN w = true) : w ∈ gt := List.mem_filter.mpr ⟨h1, h2⟩
/-- a good word holds wherever the tables are only warmer -/
theorem gt_pay {args a' : Array Value} {s U : State} (hts : ∀ w ∈ gt, w.before args s = true) (hW : s.WarmedH U.vm) : ∀ w ∈ gt, w.before a' U = true := by
  intro w hw
  have hg : goodN w = true := (List.mem_filter.mp hw).2
  have hb := hts w hw
  unfold goodN at hg
  split at hg
  · exact va_Nw.use rfl (va_Nw.warmF hW (va_Nw.of rfl hb))
  · exact va_Nw.use rfl (va_Nw.warmM hW (va_Nw.of rfl hb))
  · exact word_at hW (good_of_word hg) hb
def ckW (i : Nat) (w : Jvm.Cond) : Bool := decide (lw_tbl[i]? = some w) && goodN w
theorem ckW_mem {i : Nat} {w : Jvm.Cond} (h : ckW i w = true) : w ∈ gt := by
  simp only [ckW, Bool.and_eq_true, decide_eq_true_eq] at h
  exact gt_mem (List.mem_of_getElem? h.1) h.2
def e_len (i : Instr) : Nat := match i with
  | .bipush _ | .iload _ | .istore _ | .aload _ | .astore _ | .lload _ | .ldc _ | .newarray _ => 2
  | .sipush _ | .iinc _ _ | .getfield _ | .putfield _ | .getstatic _ | .invokevirtual _ | .invokespecial _ | .invokestatic _ | .new _ | .anewarray _ | .ifCond _ _ | .if_icmp _ _ | .goto _ | .ifnull _ | .ifnonnull _ | .ldc_w _ | .ldc2_w _ => 3
  | _ => 1
def iY (x : Nat) : MethodName := match x with
  | 1000 => objectInit
  | 1001 => Lib.Math.max.name
  | 1002 => Lib.Math.min.name
  | 1003 => arraycopyName
  | 1004 => ⟨"java/lang/String", "length", "()I"⟩
  | 1005 => ⟨"java/lang/String", "charAt", "(I)C"⟩
  | _ => ⟨"java/lang/String", "indexOf", "(I)I"⟩
def statN : List String := ["RULE_WITHOUT", "RULE_LEAST", "RULE_MOST", "WAIT_WITHOUT", "WAIT_LEAST", "WAIT_MOST", "STEP_NUMBERS"]
def ckF (own : String) (ix y : Nat) (T : u_T) (ws : List Nat) : Bool := match ws with
  | [w, 0] => ckW w (.fieldLink own ix (T y).1 (T y).2.1 (T y).2.2.1)
  | [w, 1] => ckW w (.fieldLinkNest own ix (T y).1 (T y).2.1 (T y).2.2.1 "SlotBuses")
  | _ => false
def ckL (own : String) (ix : Nat) (q : MethodName) (w nest : Nat) : Bool := match nest with
  | 0 => ckW w (.methodLink own ix q)
  | _ => ckW w (.methodLinkNest own ix q "SlotBuses")
noncomputable def ckD (q : MethodName) (n : Nat) : Bool := decide ((parseMethodDescriptor q.desc).map (fun d => d.parameters.length) = some n) && decide (q.cls ≠ "java/lang/invoke/MethodHandle") && decide (q.cls ≠ "java/lang/invoke/VarHandle")
noncomputable def ckX (mid pc : Nat) (i : Instr) (x y : Nat) (ws : List Nat) : Bool := match i with
  | .bipush n => decide ((Int8.ofInt n).toInt32 = Int32.ofInt n)
  | .sipush n => decide ((Int16.ofInt n).toInt32 = Int32.ofInt n)
  | .istore k => Nat.blt k (pM mid)
  | .istore_n k => Nat.blt k.val (pM mid)
  | .astore k => Nat.blt k (pM mid)
  | .astore_n k => Nat.blt k.val (pM mid)
  | .iinc k _ => Nat.blt k (pM mid)
  | .ifCond _ off => decide ((pc : Int) + off = (x : Int))
  | .if_icmp _ off => decide ((pc : Int) + off = (x : Int))
  | .goto off => decide ((pc : Int) + off = (x : Int))
  | .ifnull off => decide ((pc : Int) + off = (x : Int))
  | .ifnonnull off => decide ((pc : Int) + off = (x : Int))
  | .lookupswitch _ ps => (ps.toList.zip (ps.toList.drop 1)).all (fun (a, next) => a.1 < next.1)
  | .getfield ix => (match pCl[x]? with
    | some (_, T, N) => Nat.blt y N && ckF (pY mid).cls ix y T ws
    | none => false)
  | .putfield ix => (match pCl[x]? with
    | some (_, T, N) => Nat.blt y N && (bif (T y).2.2.2 then (match ws with
      | [w, 0] => ckW w (.fieldLink (pY mid).cls ix (T y).1 (T y).2.1 (T y).2.2.1) && decide ((T y).1 = (pY mid).cls) && decide ((pY mid).name = "<init>")
      | _ => false) else ckF (pY mid).cls ix y T ws)
    | none => false)
  | .getstatic ix => (match statN[y - 1]?, ws with
    | some nm, [w] => ckW w (.fieldLink (pY mid).cls ix "SlotBuses$Tape" nm "[I") && Nat.blt 0 y
    | _, _ => false)
  | .ldc ix => (match ws with
    | [w] => bif Nat.beq x 0 then (match pKI[y]? with
      | some v => ckW w (.constant (pY mid).cls ix v)
      | none => false) else (match pSt[y - 16]? with
      | some q => decide (q.1 = (pY mid).cls) && decide (lw_tbl[w]? = some (.stringRef (pY mid).cls ix q.2)) && Nat.ble 16 y
      | none => false)
    | _ => false)
  | .ldc_w ix => (match pKI[y]?, ws with
    | some v, [w] => ckW w (.constant (pY mid).cls ix v)
    | _, _ => false)
  | .ldc2_w ix => (match pKJ[y]?, ws with
    | some v, [w] => ckW w (.constantLong (pY mid).cls ix v)
    | _, _ => false)
  | .new ix => (match pCl[x]?, ws with
    | some (C, _, N), [w, w1, w2] => ckW w (.classLink (pY mid).cls ix C) && ckW w1 (.instantiable C N) && ckW w2 (.initialized C)
    | _, _ => false)
  | .newarray t => (match ws with
    | [w] => ckW w (.arrayClass (newarray.typeOf t)) && (match t with
      | .int => Nat.beq x 0
      | .byte => Nat.beq x 1
      | .long => Nat.beq x 2
      | _ => false)
    | _ => false)
  | .anewarray ix => (match ws with
    | [w] => ckW w (.classLink (pY mid).cls ix "SlotBuses$Row")
    | _ => false)
  | .invokevirtual ix => bif Nat.blt x 1000 then (match ws with
    | [w, ne, w1, w2, w3] => Nat.blt x 296 && Nat.blt 0 y && ckD (pY x) (y - 1) && ckL (pY mid).cls ix (pY x) w ne && ckW w1 (.instanceMethod (pY x)) && ckW w2 (.selects (pY x).cls (pY x) (pY x)) && ckW w3 (.initialized (pY x).cls) && decide ((pCl[pCi x]?).map (fun q => q.1) = some (pY x).cls)
    | _ => false) else (match ws with
    | [w] => ckW w (.methodLink (pY mid).cls ix (iY x)) && (Nat.beq x 1004 || Nat.beq x 1005 || Nat.beq x 1006)
    | _ => false)
  | .invokespecial ix => bif Nat.blt x 1000 then (match ws with
    | [w, ne, w1, w3] => Nat.blt x 296 && Nat.blt 0 y && ckD (pY x) (y - 1) && ckL (pY mid).cls ix (pY x) w ne && ckW w1 (.instanceMethod (pY x)) && ckW w3 (.initialized (pY x).cls) && decide ((pY x).name = "<init>") && decide (pR x = none)
    | _ => false) else (match ws with
    | [w] => ckW w (.methodLink (pY mid).cls ix (iY x)) && Nat.beq x 1000 && Nat.beq y 1
    | _ => false)
  | .invokestatic ix => bif Nat.blt x 1000 then (match ws with
    | [w, ne, w1, w3] => Nat.blt x 296 && ckD (pY x) y && ckL (pY mid).cls ix (pY x) w ne && ckW w1 (.static (pY x)) && ckW w3 (.initialized (pY x).cls)
    | _ => false) else (match ws with
    | [w] => Nat.beq x 1007 || (ckW w (.methodLink (pY mid).cls ix (iY x)) && (Nat.beq x 1001 || Nat.beq x 1002 || Nat.beq x 1003))
    | _ => false)
  | _ => true
def e_isw (i : Instr) : Bool := match i with
  | .tableswitch _ _ _ _ => true
  | .lookupswitch _ _ => true
  | _ => false
noncomputable def ckE (mid : Nat) (q : Nat × aI × List Nat) : Bool := match q with
  | (pc, (i, nx, x, y), ws) => decide (decode (pB mid) pc = .ok (i, nx - pc)) && Nat.ble pc nx && (e_isw i || Nat.beq nx (pc + e_len i)) && ckX mid pc i x y ws
