/-! PM: A PURE MACHINE. Cells, frames and links as lists and numbers; one step is a function; a method's run is a relation (pm_Rd) or a function with fuel (pm_ev). -/
/-- a cell: an array (0 int, 1 boolean, 2 long, 3 byte, 4 references; its contents), or an object (its number, its fields) -/
abbrev pm_A : Type := List Int32 ⊕ List Int64 ⊕ List (Option Nat)
abbrev pm_C : Type := (Nat × pm_A) ⊕ (Nat × List Value)
abbrev pm_H : Type := List pm_C
/-- pc, locals, stack, heap, cells made, slots made -/
abbrev pm_S : Type := Nat × List (Option Value) × List Value × pm_H × Nat × Nat
/-- a method's end: its value, the heap, what it made -/
abbrev pm_R : Type := Option Value × pm_H × Nat × Nat
abbrev pm_L : Type := Nat × Nat × Nat × Value
/-- code by method and pc (group, instruction, target); owner's number; links by owner and index; a method's parameters, locals, kind of answer; fixed arrays; fixed objects; default fields; field types; the number of the references' kind -/
abbrev pm_K : Type := (Nat → Nat → Option (Nat × Instr × Nat)) × (Nat → Nat) × (Nat → Nat → Option pm_L) × (Nat → Nat × Nat × Nat) × (Nat → Option (Nat × Nat × (Nat → Value))) × (Nat → Nat → Option Value) × (Nat → List Value) × (Nat → Nat → FieldType) × Nat
def pm_code (K : pm_K) : Nat → Nat → Option (Nat × Instr × Nat) := K.1
def pm_own (K : pm_K) : Nat → Nat := K.2.1
def pm_lnk (K : pm_K) : Nat → Nat → Option pm_L := K.2.2.1
def pm_sig (K : pm_K) : Nat → Nat × Nat × Nat := K.2.2.2.1
def pm_ra (K : pm_K) : Nat → Option (Nat × Nat × (Nat → Value)) := K.2.2.2.2.1
def pm_ro (K : pm_K) : Nat → Nat → Option Value := K.2.2.2.2.2.1
def pm_new0 (K : pm_K) : Nat → List Value := K.2.2.2.2.2.2.1
def pm_fty (K : pm_K) : Nat → Nat → FieldType := K.2.2.2.2.2.2.2.1
def pm_eci (K : pm_K) : Nat := K.2.2.2.2.2.2.2.2
/-- from here on addresses are those of fixed cells -/
def pm_lim : Nat := 1048576
def pm_at (ph : pm_H) (a : Nat) : Option pm_C := bif Nat.blt a 1048576 then ph[a]? else none
def pm_rat (K : pm_K) (a : Nat) : Option (Nat × Nat × (Nat → Value)) := bif Nat.blt a 1048576 then none else pm_ra K (a - 1048576)
/-- what an array holds at an index, and what it is with another thing there -/
def pm_ix {α : Type} (l : List α) (i : Int32) : Option α := bif decide (i < 0) then none else l[i.toNatClampNeg]?
def pm_up {α : Type} (l : List α) (i : Int32) (x : α) : Option (List α) := match pm_ix l i with
  | some _ => some (l.set i.toNatClampNeg x)
  | none => none
def pm_cpy {α : Type} (l m : List α) (sp dp n : Nat) : List α := m.take dp ++ ((l.drop sp).take n ++ m.drop (dp + n))
def pm_inb (i : Int32) (n : Nat) : Bool := bif decide (i < 0) then false else Nat.blt i.toNatClampNeg n
/-- may a variable of the type hold it, whole -/
def pm_fit (ty : FieldType) (v : Value) : Bool := match ty, v with
  | .int, .int _ => true
  | .long, .long _ => true
  | .boolean, .int x => bif decide (x = 0) then true else decide (x = 1)
  | .object _, .ref _ => true
  | .object _, .null => true
  | .array _, .ref _ => true
  | .array _, .null => true
  | _, _ => false
def pm_rv (r : Option Nat) : Value := match r with
  | some a => .ref a
  | none => .null
/-! group 0: the stack alone, one byte -/
def pm_alu (ins : Instr) (st : List Value) : Option (List Value) := match ins, st with
  | .iconst n, r => some (.int (Int32.ofInt n) :: r)
  | .lconst n, r => some (.long (Int64.ofNat (n : Nat)) :: r)
  | .aconst_null, r => some (.null :: r)
  | .iadd, .int y :: .int x :: r => some (.int (x + y) :: r)
  | .isub, .int y :: .int x :: r => some (.int (x - y) :: r)
  | .imul, .int y :: .int x :: r => some (.int (x * y) :: r)
  | .iand, .int y :: .int x :: r => some (.int (x &&& y) :: r)
  | .ior, .int y :: .int x :: r => some (.int (x ||| y) :: r)
  | .ixor, .int y :: .int x :: r => some (.int (x ^^^ y) :: r)
  | .idiv, .int y :: .int x :: r => bif decide (y = 0) then none else some (.int (x / y) :: r)
  | .irem, .int y :: .int x :: r => bif decide (y = 0) then none else some (.int (x - x / y * y) :: r)
  | .ineg, .int x :: r => some (.int (-x) :: r)
  | .ishl, .int y :: .int x :: r => some (.int (x <<< (y &&& 31)) :: r)
  | .ishr, .int y :: .int x :: r => some (.int (x >>> (y &&& 31)) :: r)
  | .iushr, .int y :: .int x :: r => some (.int (x.toUInt32 >>> (y.toUInt32 &&& Int32.toUInt32 31)).toInt32 :: r)
  | .ladd, .long y :: .long x :: r => some (.long (x + y) :: r)
  | .lsub, .long y :: .long x :: r => some (.long (x - y) :: r)
  | .lmul, .long y :: .long x :: r => some (.long (x * y) :: r)
  | .land, .long y :: .long x :: r => some (.long (x &&& y) :: r)
  | .lor, .long y :: .long x :: r => some (.long (x ||| y) :: r)
  | .lxor, .long y :: .long x :: r => some (.long (x ^^^ y) :: r)
  | .ldiv, .long y :: .long x :: r => bif decide (y = 0) then none else some (.long (x / y) :: r)
  | .lrem, .long y :: .long x :: r => bif decide (y = 0) then none else some (.long (x - x / y * y) :: r)
  | .lneg, .long x :: r => some (.long (-x) :: r)
  | .lshl, .int y :: .long x :: r => some (.long (x <<< (y.toInt64 &&& 63)) :: r)
  | .lshr, .int y :: .long x :: r => some (.long (x >>> (y.toInt64 &&& 63)) :: r)
  | .lushr, .int y :: .long x :: r => some (.long (x.toUInt64 >>> (y.toInt64.toUInt64 &&& Int64.toUInt64 63)).toInt64 :: r)
  | .lcmp, .long y :: .long x :: r => some (.int (lg_cmp x y) :: r)
  | .i2l, .int x :: r => some (.long x.toInt64 :: r)
  | .l2i, .long x :: r => some (.int x.toInt32 :: r)
  | .i2b, .int x :: r => some (.int x.toInt8.toInt32 :: r)
  | .i2s, .int x :: r => some (.int x.toInt16.toInt32 :: r)
  | .i2c, .int x :: r => some (.int (x.toUInt32 % 65536).toInt32 :: r)
  | .dup, v :: r => bif Nat.beq v.category 1 then some (v :: v :: r) else none
  | .pop, v :: r => bif Nat.beq v.category 1 then some r else none
  | .dup_x1, v :: w :: r => bif Nat.beq v.category 1 && Nat.beq w.category 1 then some (v :: w :: v :: r) else none
  | .dup_x2, v :: w :: x :: r => bif Nat.beq v.category 1 && (Nat.beq w.category 1 && Nat.beq x.category 1) then some (v :: w :: x :: v :: r) else none
  | .dup2, v :: r => bif Nat.beq v.category 2 then some (v :: v :: r) else match r with
      | w :: q => bif Nat.beq v.category 1 && Nat.beq w.category 1 then some (v :: w :: v :: w :: q) else none
      | [] => none
  | .pop2, v :: r => bif Nat.beq v.category 2 then some r else none
  | _, _ => none
/-! group 1: constants of more bytes -/
def pm_push (K : pm_K) (ow : Nat) (ins : Instr) : Option (Value × Nat) := match ins with
  | .bipush n => some (.int (Int8.ofInt n).toInt32, 2)
  | .sipush n => some (.int (Int16.ofInt n).toInt32, 3)
  | .ldc i => match pm_lnk K ow i with
      | some (10, _, _, v) => some (v, 2)
      | some (12, _, _, v) => some (v, 2)
      | _ => none
  | .ldc_w i => match pm_lnk K ow i with
      | some (10, _, _, v) => some (v, 3)
      | some (12, _, _, v) => some (v, 3)
      | _ => none
  | .ldc2_w i => match pm_lnk K ow i with
      | some (11, _, _, v) => some (v, 3)
      | _ => none
  | .getstatic i => match pm_lnk K ow i with
      | some (8, _, _, v) => some (v, 3)
      | _ => none
  | _ => none
/-! group 2: a variable is read -/
def pm_ld (L : List (Option Value)) (i len : Nat) : Option (Value × Nat) := match L[i]? with
  | some (some v) => some (v, len)
  | _ => none
def pm_isI (v : Value) : Bool := match v with | .int _ => true | _ => false
def pm_isL (v : Value) : Bool := match v with | .long _ => true | _ => false
def pm_isA (v : Value) : Bool := match v with | .ref _ => true | .null => true | _ => false
def pm_load (ins : Instr) (L : List (Option Value)) : Option (Value × Nat) := match ins with
  | .iload_n k => match L[(k : Nat)]? with
      | some (some (.int x)) => some (.int x, 1)
      | _ => none
  | .iload i => match L[i]? with
      | some (some (.int x)) => some (.int x, 2)
      | _ => none
  | .lload_n k => match L[(k : Nat)]? with
      | some (some (.long x)) => some (.long x, 1)
      | _ => none
  | .lload i => match L[i]? with
      | some (some (.long x)) => some (.long x, 2)
      | _ => none
  | .aload_n k => match L[(k : Nat)]? with
      | some (some (.ref x)) => some (.ref x, 1)
      | some (some .null) => some (.null, 1)
      | _ => none
  | .aload i => match L[i]? with
      | some (some (.ref x)) => some (.ref x, 2)
      | some (some .null) => some (.null, 2)
      | _ => none
  | _ => none
/-! group 3: a variable is written -/
def pm_set (L : List (Option Value)) (i : Nat) (v : Value) : List (Option Value) := match i with
  | 0 => L.set 0 (some v)
  | j + 1 => match L[j]? with
      | some (some (.long _)) => (L.set (j + 1) (some v)).set j none
      | some (some (.double _)) => (L.set (j + 1) (some v)).set j none
      | _ => L.set (j + 1) (some v)
def pm_store (ins : Instr) (L : List (Option Value)) (st : List Value) : Option (List (Option Value) × List Value × Nat) := match ins, st with
  | .istore_n k, .int x :: r => bif Nat.blt (k : Nat) L.length then some (pm_set L k (.int x), r, 1) else none
  | .istore i, .int x :: r => bif Nat.blt i L.length then some (pm_set L i (.int x), r, 2) else none
  | .lstore_n k, .long x :: r => bif Nat.blt ((k : Nat) + 1) L.length then some ((pm_set L k (.long x)).set ((k : Nat) + 1) none, r, 1) else none
  | .lstore i, .long x :: r => bif Nat.blt (i + 1) L.length then some ((pm_set L i (.long x)).set (i + 1) none, r, 2) else none
  | .astore_n k, .ref x :: r => bif Nat.blt (k : Nat) L.length then some (pm_set L k (.ref x), r, 1) else none
  | .astore i, .ref x :: r => bif Nat.blt i L.length then some (pm_set L i (.ref x), r, 2) else none
  | .iinc i n, r => match L[i]? with
      | some (some (.int x)) => bif Nat.blt i L.length then some (pm_set L i (.int (x + Int32.ofInt n)), r, 3) else none
      | _ => none
  | _, _ => none
/-! group 4: branches; aux is the target -/
def pm_tgt (pc : Nat) (off : Int) : Option Nat := match (pc : Int) + off with
  | .ofNat t => some t
  | .negSucc _ => none
def pm_br (ins : Instr) (aux pc : Nat) (st : List Value) : Option (Nat × List Value) := match ins, st with
  | .ifCond .eq _, .int x :: r => some (bif decide (x = 0) then aux else pc + 3, r)
  | .ifCond .ne _, .int x :: r => some (bif decide (x = 0) then pc + 3 else aux, r)
  | .ifCond .lt _, .int x :: r => some (bif decide (x < 0) then aux else pc + 3, r)
  | .ifCond .ge _, .int x :: r => some (bif decide (0 ≤ x) then aux else pc + 3, r)
  | .ifCond .gt _, .int x :: r => some (bif decide (0 < x) then aux else pc + 3, r)
  | .ifCond .le _, .int x :: r => some (bif decide (x ≤ 0) then aux else pc + 3, r)
  | .if_icmp .eq _, .int y :: .int x :: r => some (bif decide (x = y) then aux else pc + 3, r)
  | .if_icmp .ne _, .int y :: .int x :: r => some (bif decide (x = y) then pc + 3 else aux, r)
  | .if_icmp .lt _, .int y :: .int x :: r => some (bif decide (x < y) then aux else pc + 3, r)
  | .if_icmp .ge _, .int y :: .int x :: r => some (bif decide (y ≤ x) then aux else pc + 3, r)
  | .if_icmp .gt _, .int y :: .int x :: r => some (bif decide (y < x) then aux else pc + 3, r)
  | .if_icmp .le _, .int y :: .int x :: r => some (bif decide (x ≤ y) then aux else pc + 3, r)
  | .goto _, r => some (aux, r)
  | .tableswitch d lo hi offs, .int x :: r => bif decide (x.toInt < lo) || decide (hi < x.toInt) then (match pm_tgt pc d with
        | some t => some (t, r)
        | none => none)
      else (match offs[(x.toInt - lo).toNat]? with
        | some o => (match pm_tgt pc o with
            | some t => some (t, r)
            | none => none)
        | none => none)
  | .lookupswitch d ps, .int x :: r => bif (ps.toList.zip (ps.toList.drop 1)).all (fun (a, next) => a.1 < next.1) then (match pm_tgt pc (Op.lookupswitch.offset ps.toList d x.toInt) with
        | some t => some (t, r)
        | none => none)
      else none
  | _, _ => none
/-! group 5: the heap; an instruction's length, the stack, the heap, what was made -/
def pm_blank (t : ArrayType) (n : Nat) : Option pm_C := match t with
  | .int => some (.inl (0, .inl (List.replicate n 0)))
  | .boolean => some (.inl (1, .inl (List.replicate n 0)))
  | .long => some (.inl (2, .inr (.inl (List.replicate n 0))))
  | _ => none
def pm_mem (K : pm_K) (al : Bool) (ow : Nat) (ins : Instr) (st : List Value) (ph : pm_H) : Option (Nat × List Value × pm_H × Nat × Nat) := match ins, st with
  | .getfield i, .ref a :: r => match pm_lnk K ow i with
      | some (6, ci, k, _) => (match pm_at ph a with
          | some (.inr (cj, fs)) => bif Nat.beq ci cj then (match fs[k]? with
              | some v => some (3, v :: r, ph, 0, 0)
              | none => none) else none
          | _ => none)
      | some (7, j, _, _) => bif Nat.blt a 1048576 then none else (match pm_ro K (a - 1048576) j with
          | some v => some (3, v :: r, ph, 0, 0)
          | none => none)
      | _ => none
  | .putfield i, v :: .ref a :: r => match pm_lnk K ow i with
      | some (6, ci, k, _) => (match pm_at ph a with
          | some (.inr (cj, fs)) => bif Nat.beq ci cj && (pm_fit (pm_fty K ci k) v && Nat.blt k fs.length) then some (3, r, ph.set a (.inr (cj, fs.set k v)), 0, 0) else none
          | _ => none)
      | _ => none
  | .arraylength, .ref a :: r => match pm_at ph a with
      | some (.inl (t, .inl l)) => bif Nat.ble t 4 then some (1, .int (Int32.ofNat l.length) :: r, ph, 0, 0) else none
      | some (.inl (t, .inr (.inl l))) => bif Nat.ble t 4 then some (1, .int (Int32.ofNat l.length) :: r, ph, 0, 0) else none
      | some (.inl (t, .inr (.inr l))) => bif Nat.ble t 4 then some (1, .int (Int32.ofNat l.length) :: r, ph, 0, 0) else none
      | some (.inr _) => none
      | none => (match pm_rat K a with
          | some (_, n, _) => some (1, .int (Int32.ofNat n) :: r, ph, 0, 0)
          | none => none)
  | .iaload, .int i :: .ref a :: r => match pm_at ph a with
      | some (.inl (0, .inl l)) => (match pm_ix l i with
          | some x => some (1, .int x :: r, ph, 0, 0)
          | none => none)
      | some _ => none
      | none => (match pm_rat K a with
          | some (0, n, f) => bif pm_inb i n then some (1, f i.toNatClampNeg :: r, ph, 0, 0) else none
          | _ => none)
  | .baload, .int i :: .ref a :: r => match pm_at ph a with
      | some (.inl (1, .inl l)) => (match pm_ix l i with
          | some x => some (1, .int x :: r, ph, 0, 0)
          | none => none)
      | some _ => none
      | none => (match pm_rat K a with
          | some (3, n, f) => bif pm_inb i n then some (1, f i.toNatClampNeg :: r, ph, 0, 0) else none
          | _ => none)
  | .laload, .int i :: .ref a :: r => match pm_at ph a with
      | some (.inl (2, .inr (.inl l))) => (match pm_ix l i with
          | some x => some (1, .long x :: r, ph, 0, 0)
          | none => none)
      | _ => none
  | .aaload, .int i :: .ref a :: r => match pm_at ph a with
      | some (.inl (4, .inr (.inr l))) => (match pm_ix l i with
          | some x => some (1, pm_rv x :: r, ph, 0, 0)
          | none => none)
      | _ => none
  | .iastore, .int x :: .int i :: .ref a :: r => match pm_at ph a with
      | some (.inl (0, .inl l)) => (match pm_up l i x with
          | some l' => some (1, r, ph.set a (.inl (0, .inl l')), 0, 0)
          | none => none)
      | _ => none
  | .bastore, .int x :: .int i :: .ref a :: r => match pm_at ph a with
      | some (.inl (1, .inl l)) => (match pm_up l i (x &&& 1) with
          | some l' => some (1, r, ph.set a (.inl (1, .inl l')), 0, 0)
          | none => none)
      | _ => none
  | .lastore, .long x :: .int i :: .ref a :: r => match pm_at ph a with
      | some (.inl (2, .inr (.inl l))) => (match pm_up l i x with
          | some l' => some (1, r, ph.set a (.inl (2, .inr (.inl l'))), 0, 0)
          | none => none)
      | _ => none
  | .aastore, .ref v :: .int i :: .ref a :: r => match pm_at ph a with
      | some (.inl (4, .inr (.inr l))) => (match pm_at ph v with
          | some (.inr (ci, _)) => (match pm_up l i (some v) with
              | some l' => bif Nat.beq ci (pm_eci K) then some (1, r, ph.set a (.inl (4, .inr (.inr l'))), 0, 0) else none
              | none => none)
          | _ => none)
      | _ => none
  | .new i, r => match pm_lnk K ow i with
      | some (9, ci, n, _) => bif al && Nat.blt ph.length 1048575 then some (3, .ref ph.length :: r, ph ++ [.inr (ci, pm_new0 K ci)], 1, n) else none
      | _ => none
  | .newarray t, .int n :: r => bif decide (n < 0) then none else (match pm_blank t n.toNatClampNeg with
      | some c => bif al && (Nat.blt ph.length 1048575 && Nat.ble n.toNatClampNeg 1000000) then some (2, .ref ph.length :: r, ph ++ [c], 1, n.toNatClampNeg) else none
      | none => none)
  | .anewarray i, .int n :: r => bif decide (n < 0) then none else (match pm_lnk K ow i with
      | some (9, ci, _, _) => bif (al && Nat.beq ci (pm_eci K)) && (Nat.blt ph.length 1048575 && Nat.ble n.toNatClampNeg 1000000) then some (3, .ref ph.length :: r, ph ++ [.inl (4, .inr (.inr (List.replicate n.toNatClampNeg none)))], 1, n.toNatClampNeg) else none
      | _ => none)
  | .invokespecial i, .ref _ :: r => match pm_lnk K ow i with
      | some (4, _, _, _) => bif Nat.ble (r.map fun v => v.category).sum 8 then some (3, r, ph, 0, 0) else none
      | _ => none
  | .invokestatic i, s0 => match pm_lnk K ow i with
      | some (5, _, _, _) => (match s0 with
          | .int n :: .int dp :: .ref b :: .int sp :: .ref a :: r => (match pm_at ph a, pm_at ph b with
              | some (.inl (0, .inl f)), some (.inl (0, .inl g)) =>
                  bif !al && ((!decide (sp < 0) && (!decide (dp < 0) && !decide (n < 0))) && ((Nat.ble (sp.toNatClampNeg + n.toNatClampNeg) f.length && Nat.ble (dp.toNatClampNeg + n.toNatClampNeg) g.length) && Nat.ble (r.map fun v => v.category).sum 8)) then
                    some (3, r, ph.set b (.inl (0, .inl (pm_cpy f g sp.toNatClampNeg dp.toNatClampNeg n.toNatClampNeg))), 0, 0) else none
              | _, _ => none)
          | _ => none)
      | some (15, _, _, _) => (match s0 with
          | .int y :: .int x :: r => bif Nat.ble (r.map fun v => v.category).sum 8 then some (3, .int (if x < y then y else x) :: r, ph, 0, 0) else none
          | _ => none)
      | some (16, _, _, _) => (match s0 with
          | .int y :: .int x :: r => bif Nat.ble (r.map fun v => v.category).sum 8 then some (3, .int (if y < x then y else x) :: r, ph, 0, 0) else none
          | _ => none)
      | some (17, _, _, _) => (match s0 with
          | .int x :: r => bif Nat.ble (r.map fun v => v.category).sum 8 then some (3, .int (if 0 ≤ x then x else 0 - x) :: r, ph, 0, 0) else none
          | _ => none)
      | _ => none
  | _, _ => none
/-! group 6: calls: the method, its arguments, the stack left -/
def pm_inv (K : pm_K) (ow : Nat) (ins : Instr) (st : List Value) (ph : pm_H) : Option (Nat × List Value × List Value) := match ins with
  | .invokestatic i => match pm_lnk K ow i with
      | some (1, j, n, _) => bif Nat.ble n st.length && Nat.ble ((st.drop n).map fun v => v.category).sum 8 then some (j, (st.take n).reverse, st.drop n) else none
      | _ => none
  | .invokevirtual i => match pm_lnk K ow i with
      | some (2, j, n, .ref ci) => (match st.drop n with
          | .ref a :: r => (match pm_at ph a with
              | some (.inr (cj, _)) => bif Nat.beq ci cj && Nat.ble (r.map fun v => v.category).sum 8 then some (j, .ref a :: (st.take n).reverse, r) else none
              | _ => none)
          | _ => none)
      | some (2, j, n, .null) => (match st.drop n with
          | .ref a :: r => bif Nat.blt a 1048576 then none else (match pm_ro K (a - 1048576) 0 with
              | some _ => bif Nat.ble (r.map fun v => v.category).sum 8 then some (j, .ref a :: (st.take n).reverse, r) else none
              | none => none)
          | _ => none)
      | _ => none
  | .invokespecial i => match pm_lnk K ow i with
      | some (3, j, n, _) => (match st.drop n with
          | .ref a :: r => bif Nat.ble (r.map fun v => v.category).sum 8 then some (j, .ref a :: (st.take n).reverse, r) else none
          | _ => none)
      | _ => none
  | _ => none
/-! group 8: a static that is carried into a call alone (getstatic, invokestatic aux), of 0 <= i < n -/
def pm_mac (K : pm_K) (ow aux : Nat) (st : List Value) (ph : pm_H) : Option (Nat × List Value × List Value) := match st with
  | .int n :: .int i :: r => bif !decide (i < 0) && decide (i < n) then pm_inv K ow (.invokestatic aux) (.null :: .int n :: .int i :: r) ph else none
  | _ => none
/-! group 7: the end; kinds of answer: 0 none, 1 int, 2 boolean, 3 long, 4 reference, 5 char, 6 byte -/
def pm_ret (kd : Nat) (ins : Instr) (st : List Value) : Option (Option Value) := match ins, st with
  | .return_, [] => bif Nat.beq kd 0 then some none else none
  | .ireturn, [.int x] => bif Nat.beq kd 1 then some (some (.int x)) else bif Nat.beq kd 2 && (bif decide (x = 0) then true else decide (x = 1)) then some (some (.int x)) else bif Nat.beq kd 5 && decide (x.toUInt32.toUInt16.toUInt32.toInt32 = x) then some (some (.int x)) else bif Nat.beq kd 6 && decide (x.toInt8.toInt32 = x) then some (some (.int x)) else none
  | .lreturn, [.long x] => bif Nat.beq kd 3 then some (some (.long x)) else none
  | .areturn, [.ref a] => bif Nat.beq kd 4 then some (some (.ref a)) else none
  | .areturn, [.null] => bif Nat.beq kd 4 then some (some .null) else none
  | _, _ => none
/-- what a step comes to: the next state, a call (with the state behind it, without the answer), or the end -/
abbrev pm_O : Type := pm_S ⊕ (Nat × List Value × pm_S) ⊕ Option Value
def pm_step (K : pm_K) (al : Bool) (mj : Nat) (x : pm_S) : Option pm_O := match x with
  | (pc, L, st, ph, cs, ss) => match pm_code K mj pc with
    | none => none
    | some (g, ins, aux) => match g with
      | 0 => (match pm_alu ins st with
          | some st' => some (.inl (pc + 1, L, st', ph, cs, ss))
          | none => none)
      | 1 => (match pm_push K (pm_own K mj) ins with
          | some (v, n) => some (.inl (pc + n, L, v :: st, ph, cs, ss))
          | none => none)
      | 2 => (match pm_load ins L with
          | some (v, n) => some (.inl (pc + n, L, v :: st, ph, cs, ss))
          | none => none)
      | 3 => (match pm_store ins L st with
          | some (L', st', n) => some (.inl (pc + n, L', st', ph, cs, ss))
          | none => none)
      | 4 => (match pm_br ins aux pc st with
          | some (pc', st') => some (.inl (pc', L, st', ph, cs, ss))
          | none => none)
      | 5 => (match pm_mem K al (pm_own K mj) ins st ph with
          | some (n, st', ph', c1, s1) => some (.inl (pc + n, L, st', ph', cs + c1, ss + s1))
          | none => none)
      | 6 => (match pm_inv K (pm_own K mj) ins st ph with
          | some (j, as, r) => some (.inr (.inl (j, as, (pc + 3, L, r, ph, cs, ss))))
          | none => none)
      | 7 => (match pm_ret (pm_sig K mj).2.2 ins st with
          | some v => some (.inr (.inr v))
          | none => none)
      | 8 => (match pm_mac K (pm_own K mj) aux st ph with
          | some (j, as, r) => some (.inr (.inl (j, as, (pc + 6, L, r, ph, cs, ss))))
          | none => none)
      | _ => none
def pm_sl (vs : List Value) : List (Option Value) := match vs with
  | [] => []
  | v :: t => match v with
      | .long x => some (.long x) :: none :: pm_sl t
      | .double x => some (.double x) :: none :: pm_sl t
      | w => some w :: pm_sl t
def pm_ent (K : pm_K) (mj : Nat) (as : List Value) (ph : pm_H) : pm_S := (0, pm_sl as ++ List.replicate ((pm_sig K mj).2.1 - (pm_sl as).length) none, [], ph, 0, 0)
def pm_entB (K : pm_K) (mj : Nat) (as : List Value) : Bool := Nat.ble (pm_sl as).length (pm_sig K mj).2.1
/-- n steps at most, calls by C, the end r -/
def pm_Tn (K : pm_K) (al : Bool) (C : Nat → List Value → pm_H → pm_R → Prop) (mj : Nat) : Nat → pm_S → pm_R → Prop
  | 0, _, _ => False
  | n + 1, x, r => match pm_step K al mj x with
      | none => False
      | some (.inl x') => pm_Tn K al C mj n x' r
      | some (.inr (.inl (j, as, (pc, L, st, ph, cs, ss)))) => ∃ (v : Option Value) (ph' : pm_H) (c1 s1 : Nat), C j as ph (v, ph', c1, s1) ∧ pm_Tn K al C mj n (pc, L, v.toList ++ st, ph', cs + c1, ss + s1) r
      | some (.inr (.inr v)) => r = (v, x.2.2.2)
/-- a method's run, calls at most d deep -/
def pm_Rd (K : pm_K) (al : Bool) : Nat → Nat → List Value → pm_H → pm_R → Prop
  | 0, _, _, _, _ => False
  | d + 1, mj, as, ph, r => pm_entB K mj as = true ∧ ∃ n, pm_Tn K al (pm_Rd K al d) mj n (pm_ent K mj as ph) r
/-- the same with fuel -/
def pm_run (K : pm_K) (al : Bool) (C : Nat → List Value → pm_H → Option pm_R) (mj : Nat) : Nat → pm_S → Option pm_R
  | 0, _ => none
  | n + 1, x => match pm_step K al mj x with
      | none => none
      | some (.inl x') => pm_run K al C mj n x'
      | some (.inr (.inl (j, as, (pc, L, st, ph, cs, ss)))) => (match C j as ph with
          | none => none
          | some (v, ph', c1, s1) => pm_run K al C mj n (pc, L, v.toList ++ st, ph', cs + c1, ss + s1))
      | some (.inr (.inr v)) => some (v, x.2.2.2)
def pm_ev (K : pm_K) (al : Bool) (F : Nat) : Nat → Nat → List Value → pm_H → Option pm_R
  | 0, _, _, _ => none
  | d + 1, mj, as, ph => bif pm_entB K mj as then pm_run K al (pm_ev K al F d) mj F (pm_ent K mj as ph) else none
theorem pm_run_T (K : pm_K) (al : Bool) {C : Nat → List Value → pm_H → Option pm_R} {C' : Nat → List Value → pm_H → pm_R → Prop} (hC : ∀ j as ph r, C j as ph = some r → C' j as ph r) (mj : Nat) : ∀ (n : Nat) (x : pm_S) (r : pm_R), pm_run K al C mj n x = some r → pm_Tn K al C' mj n x r := by
  intro n
  induction n with
  | zero => intro x r h; simp [pm_run] at h
  | succ n ih =>
    intro x r h
    rw [pm_run] at h
    rw [pm_Tn]
    split at h
    · cases h
    · next x' hx => exact ih _ _ h
    · next j as pc L st ph cs ss hx =>
      split at h
      · cases h
      · next v ph' c1 s1 hc => exact ⟨v, ph', c1, s1, hC _ _ _ _ hc, ih _ _ h⟩
    · next v hx => cases h; rfl
theorem pm_ev_R (K : pm_K) (al : Bool) (F : Nat) : ∀ (d mj : Nat) (as : List Value) (ph : pm_H) (r : pm_R), pm_ev K al F d mj as ph = some r → pm_Rd K al d mj as ph r := by
  intro d
  induction d with
  | zero => intro mj as ph r h; simp [pm_ev] at h
  | succ d ih =>
    intro mj as ph r h
    rw [pm_ev] at h
    cases hb : pm_entB K mj as with
    | false => rw [hb] at h; cases h
    | true =>
      rw [hb] at h
      exact ⟨hb, F, pm_run_T K al ih mj F _ _ h⟩

/-! PM: what stands between the pure machine and the kit's worlds; groups 0 to 4 -/
def pm_ad (B : Nat) (ra : Nat → Nat) (k : Nat) : Nat := bif Nat.blt k 1048576 then B + k else ra (k - 1048576)
def pm_u (ad : Nat → Nat) (v : Value) : Value := match v with
  | .ref k => .ref (ad k)
  | w => w
def pm_e (ad : Nat → Nat) (dA : Nat → ClassId) (c : pm_C) : va_E := match c with
  | .inl (t, .inl l) => .inl (dA t, l.length, .inl fun j => l.getD j 0)
  | .inl (t, .inr (.inl l)) => .inl (dA t, l.length, .inr (.inl fun j => l.getD j 0))
  | .inl (t, .inr (.inr l)) => .inl (dA t, l.length, .inr (.inr (.inr (.inr fun j => (l.getD j none).map ad))))
  | .inr (ci, fs) => .inr (ci, fs.map (pm_u ad))
theorem pm_ix_ok {α : Type} {l : List α} {i : Int32} {x : α} (h : pm_ix l i = some x) : vp_in i l.length ∧ l[i.toNatClampNeg]? = some x ∧ i.toNatClampNeg < l.length := by
  unfold pm_ix at h
  cases hd : decide (i < 0) with
  | true => rw [hd] at h; cases h
  | false =>
    rw [hd] at h
    have h1 : ¬ i < 0 := of_decide_eq_false hd
    have h2 : l[i.toNatClampNeg]? = some x := h
    have h3 : i.toNatClampNeg < l.length := (List.getElem?_eq_some_iff.mp h2).1
    refine ⟨?_, h2, h3⟩
    intro q
    rcases q with q | q
    · exact h1 q
    · exact absurd h3 (Nat.not_lt.mpr q)
theorem pm_ixD {α : Type} {l : List α} {i : Int32} {x : α} (d : α) (h : pm_ix l i = some x) : l.getD i.toNatClampNeg d = x := by
  rw [List.getD_eq_getElem?_getD, (pm_ix_ok h).2.1]
  rfl
theorem pm_up_ok {α : Type} {l l' : List α} {i : Int32} {x : α} (h : pm_up l i x = some l') : vp_in i l.length ∧ l' = l.set i.toNatClampNeg x ∧ i.toNatClampNeg < l.length := by
  unfold pm_up at h
  split at h
  · next y hy => exact ⟨(pm_ix_ok hy).1, (Option.some.inj h).symm, (pm_ix_ok hy).2.2⟩
  · cases h
theorem pm_setD {α : Type} (l : List α) (k : Nat) (x d : α) (h : k < l.length) : (fun j => (l.set k x).getD j d) = fun j => if j = k then x else l.getD j d := by
  funext j
  rw [List.getD_eq_getElem?_getD, List.getD_eq_getElem?_getD]
  by_cases hj : j = k
  · subst hj
    rw [List.getElem?_set_self h, if_pos rfl]
    rfl
  · rw [List.getElem?_set_ne (Ne.symm hj), if_neg hj]
theorem pm_cpy_len {α : Type} {l m : List α} {sp dp n : Nat} (h1 : sp + n ≤ l.length) (h2 : dp + n ≤ m.length) : (pm_cpy l m sp dp n).length = m.length := by
  unfold pm_cpy
  simp
  omega
theorem pm_cpyD {α : Type} {l m : List α} {sp dp n : Nat} (d : α) (h1 : sp + n ≤ l.length) (h2 : dp + n ≤ m.length) : (fun j => (pm_cpy l m sp dp n).getD j d) = va_cpy (fun j => l.getD j d) (fun j => m.getD j d) sp dp n := by
  funext j
  unfold va_cpy
  simp only [List.getD_eq_getElem?_getD]
  have e1 : (m.take dp).length = dp := by simp; omega
  have e2 : ((l.drop sp).take n).length = n := by simp; omega
  unfold pm_cpy
  by_cases a : dp ≤ j ∧ j < dp + n
  · rw [if_pos a, List.getElem?_append_right (by omega), e1, List.getElem?_append_left (by omega), List.getElem?_take_of_lt (by omega), List.getElem?_drop]
  · rw [if_neg a]
    by_cases b : j < dp
    · rw [List.getElem?_append_left (by omega), List.getElem?_take_of_lt b]
    · rw [List.getElem?_append_right (by omega), e1, List.getElem?_append_right (by omega), e2, List.getElem?_drop]
      rw [show dp + n + (j - dp - n) = j by omega]
theorem pm_repD {α : Type} (n : Nat) (d : α) : (fun j => (List.replicate n d).getD j d) = fun _ => d := by
  funext j
  rw [List.getD_eq_getElem?_getD, List.getElem?_replicate]
  split <;> rfl
def pm_ws (ad : Nat → Nat) (dA : Nat → ClassId) : Nat → pm_H → va_W
  | _, [] => []
  | b, c :: t => (b, pm_e ad dA c) :: pm_ws ad dA (b + 1) t
theorem pm_ws_get (ad : Nat → Nat) (dA : Nat → ClassId) : ∀ (ph : pm_H) (b k : Nat), (pm_ws ad dA b ph)[k]? = (ph[k]?).map (fun c => (b + k, pm_e ad dA c)) := by
  intro ph
  induction ph with
  | nil => intro b k; simp [pm_ws]
  | cons c t ih =>
    intro b k
    cases k with
    | zero => simp [pm_ws]
    | succ k =>
      rw [pm_ws, List.getElem?_cons_succ, List.getElem?_cons_succ, ih]
      rw [show b + 1 + k = b + (k + 1) by omega]
theorem pm_ws_set (ad : Nat → Nat) (dA : Nat → ClassId) (c : pm_C) : ∀ (ph : pm_H) (b k : Nat), pm_ws ad dA b (ph.set k c) = (pm_ws ad dA b ph).set k (b + k, pm_e ad dA c) := by
  intro ph
  induction ph with
  | nil => intro b k; simp [pm_ws]
  | cons d t ih =>
    intro b k
    cases k with
    | zero => simp [pm_ws]
    | succ k =>
      rw [List.set_cons_succ, pm_ws, pm_ws, List.set_cons_succ, ih]
      rw [show b + 1 + k = b + (k + 1) by omega]
theorem pm_ws_app (ad : Nat → Nat) (dA : Nat → ClassId) (c : pm_C) : ∀ (ph : pm_H) (b : Nat), pm_ws ad dA b (ph ++ [c]) = pm_ws ad dA b ph ++ [(b + ph.length, pm_e ad dA c)] := by
  intro ph
  induction ph with
  | nil => intro b; simp [pm_ws]
  | cons d t ih =>
    intro b
    rw [List.cons_append, pm_ws, pm_ws, List.cons_append, ih, List.length_cons]
    rw [show b + 1 + t.length = b + (t.length + 1) by omega]
theorem pm_ws_D (ad : Nat → Nat) (dA : Nat → ClassId) (ph : pm_H) (b : Nat) : va_D (fun q => b ≤ q) (pm_ws ad dA b ph) := by
  have key : ∀ (i : Nat) (p : Nat × va_E), (pm_ws ad dA b ph)[i]? = some p → p.1 = b + i := by
    intro i p h
    rw [pm_ws_get] at h
    cases hc : ph[i]? with
    | none => rw [hc] at h; cases h
    | some c => rw [hc] at h; cases h; rfl
  refine ⟨fun i j p q hp hq e => ?_, fun k q hq => ?_⟩
  · have h1 := key i p hp
    have h2 := key j q hq
    omega
  · have h1 := key k q hq
    show b ≤ q.1
    omega
theorem pm_ws_DA {A : Nat → Prop} (ad : Nat → Nat) (dA : Nat → ClassId) (ph : pm_H) (b : Nat) (h : ∀ k, k < ph.length → A (b + k)) : va_D A (pm_ws ad dA b ph) := by
  have h0 := pm_ws_D ad dA ph b
  refine ⟨h0.1, fun k q hq => ?_⟩
  rw [pm_ws_get] at hq
  cases hc : ph[k]? with
  | none => rw [hc] at hq; cases hq
  | some c =>
    rw [hc] at hq
    cases hq
    exact h k (List.getElem?_eq_some_iff.mp hc).1
theorem pm_at_some {ph : pm_H} {a : Nat} {c : pm_C} (h : pm_at ph a = some c) : a < 1048576 ∧ ph[a]? = some c := by
  unfold pm_at at h
  cases hb : Nat.blt a 1048576 with
  | false => rw [hb] at h; cases h
  | true =>
    rw [hb] at h
    exact ⟨Nat.le_of_ble_eq_true hb, h⟩
theorem pm_ad_lo {B : Nat} {ra : Nat → Nat} {a : Nat} (h : a < 1048576) : pm_ad B ra a = B + a := by
  have hb : Nat.blt a 1048576 = true := Nat.ble_eq_true_of_le h
  unfold pm_ad
  rw [hb]
  rfl
theorem pm_inb_in {i : Int32} {n : Nat} (h : pm_inb i n = true) : vp_in i n := by
  unfold pm_inb at h
  cases hd : decide (i < 0) with
  | true => rw [hd] at h; cases h
  | false =>
    rw [hd] at h
    have h1 : ¬ i < 0 := of_decide_eq_false hd
    have h2 : i.toNatClampNeg < n := Nat.le_of_ble_eq_true h
    intro q
    rcases q with q | q
    · exact h1 q
    · exact absurd h2 (Nat.not_lt.mpr q)
theorem pm_u_cat (ad : Nat → Nat) (v : Value) : (pm_u ad v).category = v.category := by cases v <;> rfl
theorem pm_u_sum (ad : Nat → Nat) (r : List Value) : ((r.map (pm_u ad)).map fun v => v.category).sum = (r.map fun v => v.category).sum := by
  rw [List.map_map]
  congr 1
  apply List.map_congr_left
  intro v _
  exact pm_u_cat ad v
theorem pm_fit_ok {ad : Nat → Nat} {ty : FieldType} {v : Value} (h : pm_fit ty v = true) : narrow ty (pm_u ad v) = pm_u ad v ∧ fits ty (pm_u ad v) = true := by
  unfold pm_fit at h
  split at h
  · exact ⟨rfl, rfl⟩
  · exact ⟨rfl, rfl⟩
  · next x =>
    cases hd : decide (x = 0) with
    | true =>
      have e : x = 0 := of_decide_eq_true hd
      subst e
      exact ⟨show narrow .boolean (.int 0) = .int 0 by decide +kernel, show fits .boolean (.int 0) = true by decide +kernel⟩
    | false =>
      rw [hd] at h
      have e : x = 1 := of_decide_eq_true h
      subst e
      exact ⟨show narrow .boolean (.int 1) = .int 1 by decide +kernel, show fits .boolean (.int 1) = true by decide +kernel⟩
  · exact ⟨rfl, rfl⟩
  · exact ⟨rfl, rfl⟩
  · exact ⟨rfl, rfl⟩
  · exact ⟨rfl, rfl⟩
  · cases h
/-- the variables -/
def pm_lr (ad : Nat → Nat) (ls : Array Slot) (nL : Nat) (L : List (Option Value)) : Prop := ls.size = nL ∧ L.length = nL ∧ lv_wf ls ∧ ∀ (i : Nat) (v : Value), L[i]? = some (some v) → ls[i]? = some (.val (pm_u ad v))
def pm_al (ad : Nat → Nat) : Nat → List (Option Value) → List (Nat × Value)
  | _, [] => []
  | k, none :: t => pm_al ad (k + 1) t
  | k, some v :: t => (k, pm_u ad v) :: pm_al ad (k + 1) t
theorem pm_al_mem (ad : Nat → Nat) : ∀ (L : List (Option Value)) (k : Nat) (q : Nat × Value), q ∈ pm_al ad k L ↔ ∃ (i : Nat) (v : Value), L[i]? = some (some v) ∧ q = (k + i, pm_u ad v) := by
  intro L
  induction L with
  | nil => intro k q; simp [pm_al]
  | cons o t ih =>
    intro k q
    cases o with
    | none =>
      rw [pm_al, ih]
      constructor
      · rintro ⟨i, v, h, rfl⟩
        exact ⟨i + 1, v, by rw [List.getElem?_cons_succ]; exact h, by rw [show k + 1 + i = k + (i + 1) by omega]⟩
      · rintro ⟨i, v, h, rfl⟩
        cases i with
        | zero => simp at h
        | succ i => exact ⟨i, v, by rw [List.getElem?_cons_succ] at h; exact h, by rw [show k + 1 + i = k + (i + 1) by omega]⟩
    | some w =>
      rw [pm_al, List.mem_cons, ih]
      constructor
      · rintro (rfl | ⟨i, v, h, rfl⟩)
        · exact ⟨0, w, rfl, rfl⟩
        · exact ⟨i + 1, v, by rw [List.getElem?_cons_succ]; exact h, by rw [show k + 1 + i = k + (i + 1) by omega]⟩
      · rintro ⟨i, v, h, rfl⟩
        cases i with
        | zero =>
          left
          have e : w = v := by simpa using h
          rw [e]
          rfl
        | succ i => exact Or.inr ⟨i, v, by rw [List.getElem?_cons_succ] at h; exact h, by rw [show k + 1 + i = k + (i + 1) by omega]⟩
theorem pm_lr.has {ad : Nat → Nat} {ls : Array Slot} {nL : Nat} {L : List (Option Value)} (h : pm_lr ad ls nL L) : lv_has ls nL (pm_al ad 0 L) := by
  refine ⟨h.1, h.2.2.1, fun q hq => ?_⟩
  obtain ⟨i, v, h1, rfl⟩ := (pm_al_mem ad L 0 q).mp hq
  have h2 := h.2.2.2 i v h1
  rw [show 0 + i = i by omega]
  exact h2
theorem pm_set_len (L : List (Option Value)) (i : Nat) (v : Value) : (pm_set L i v).length = L.length := by
  unfold pm_set
  split
  · simp
  · split <;> simp
/-- what a written variable and its neighbours hold -/
theorem pm_set_at {L : List (Option Value)} {i j : Nat} {v w : Value} (h : (pm_set L i v)[j]? = some (some w)) : (j = i ∧ w = v) ∨ (j ≠ i ∧ L[j]? = some (some w) ∧ ¬ (j + 1 = i ∧ w.category = 2)) := by
  by_cases hj : j = i
  · subst hj
    left
    refine ⟨rfl, ?_⟩
    unfold pm_set at h
    split at h
    · rw [List.getElem?_set] at h
      simp at h
      exact h.2.symm
    · next k =>
      split at h
      · rw [List.getElem?_set_ne (by omega), List.getElem?_set] at h
        simp at h
        exact h.2.symm
      · rw [List.getElem?_set_ne (by omega), List.getElem?_set] at h
        simp at h
        exact h.2.symm
      · rw [List.getElem?_set] at h
        simp at h
        exact h.2.symm
  · right
    unfold pm_set at h
    split at h
    · rw [List.getElem?_set_ne (fun e => hj e.symm)] at h
      exact ⟨hj, h, fun q => by omega⟩
    · next k =>
      split at h
      · next x hx =>
        by_cases hk : j = k
        · subst hk
          rw [List.getElem?_set] at h
          simp at h
        · rw [List.getElem?_set_ne (fun e => hk e.symm), List.getElem?_set_ne (fun e => hj e.symm)] at h
          exact ⟨hj, h, fun q => hk (by omega)⟩
      · next x hx =>
        by_cases hk : j = k
        · subst hk
          rw [List.getElem?_set] at h
          simp at h
        · rw [List.getElem?_set_ne (fun e => hk e.symm), List.getElem?_set_ne (fun e => hj e.symm)] at h
          exact ⟨hj, h, fun q => hk (by omega)⟩
      · next h1 h2 =>
        rw [List.getElem?_set_ne (fun e => hj e.symm)] at h
        refine ⟨hj, h, fun q => ?_⟩
        have e : j = k := by omega
        subst e
        cases w with
        | long x => exact h1 x h
        | double x => exact h2 x h
        | _ => exact absurd q.2 (by simp [Value.category])
theorem pm_lr.set1 {ad : Nat → Nat} {ls ls' : Array Slot} {nL i : Nat} {L : List (Option Value)} {v : Value} (h : pm_lr ad ls nL L) (h' : lv_has ls' nL ((i, pm_u ad v) :: (pm_al ad 0 L).filter (fun q => !(q.1 == i) && !(q.1 + 1 == i && q.2.category == 2)))) : pm_lr ad ls' nL (pm_set L i v) := by
  refine ⟨h'.1, by rw [pm_set_len]; exact h.2.1, h'.2.1, fun j w hj => ?_⟩
  rcases pm_set_at hj with ⟨rfl, rfl⟩ | ⟨h1, h2, h3⟩
  · exact h'.2.2 _ List.mem_cons_self
  · refine h'.2.2 (j, pm_u ad w) (List.mem_cons_of_mem _ (List.mem_filter.mpr ⟨(pm_al_mem ad L 0 _).mpr ⟨j, w, h2, by rw [show 0 + j = j by omega]⟩, ?_⟩))
    rw [pm_u_cat]
    by_cases a : j + 1 = i
    · have b : ¬ w.category = 2 := fun z => h3 ⟨a, z⟩
      simp [h1, a, b]
    · simp [h1, a]
theorem pm_lr.set2 {ad : Nat → Nat} {ls ls' : Array Slot} {nL i : Nat} {L : List (Option Value)} {v : Value} (h : pm_lr ad ls nL L) (h' : lv_has ls' nL ((i, pm_u ad v) :: (pm_al ad 0 L).filter (fun q => !(q.1 == i) && (!(q.1 == i + 1) && !(q.1 + 1 == i && q.2.category == 2))))) : pm_lr ad ls' nL ((pm_set L i v).set (i + 1) none) := by
  refine ⟨h'.1, by rw [List.length_set, pm_set_len]; exact h.2.1, h'.2.1, fun j w hj => ?_⟩
  by_cases hk : j = i + 1
  · subst hk
    rw [List.getElem?_set] at hj
    simp at hj
  · rw [List.getElem?_set_ne (fun e => hk e.symm)] at hj
    rcases pm_set_at hj with ⟨rfl, rfl⟩ | ⟨h1, h2, h3⟩
    · exact h'.2.2 _ List.mem_cons_self
    · refine h'.2.2 (j, pm_u ad w) (List.mem_cons_of_mem _ (List.mem_filter.mpr ⟨(pm_al_mem ad L 0 _).mpr ⟨j, w, h2, by rw [show 0 + j = j by omega]⟩, ?_⟩))
      rw [pm_u_cat]
      by_cases a : j + 1 = i
      · have b : ¬ w.category = 2 := fun z => h3 ⟨a, z⟩
        simp [h1, a, b, hk]
      · simp [h1, a, hk]
/-- an instruction's length; a switch has it as its aux -/
def pm_len (ins : Instr) (aux : Nat) : Nat := match ins with
  | .bipush _ => 2
  | .sipush _ => 3
  | .ldc _ => 2
  | .ldc_w _ => 3
  | .ldc2_w _ => 3
  | .getstatic _ => 3
  | .iload _ => 2
  | .lload _ => 2
  | .aload _ => 2
  | .istore _ => 2
  | .lstore _ => 2
  | .astore _ => 2
  | .iinc _ _ => 3
  | .ifCond _ _ => 3
  | .if_icmp _ _ => 3
  | .goto _ => 3
  | .tableswitch _ _ _ _ => aux
  | .lookupswitch _ _ => aux
  | .getfield _ => 3
  | .putfield _ => 3
  | .new _ => 3
  | .newarray _ => 2
  | .anewarray _ => 3
  | .invokespecial _ => 3
  | .invokestatic _ => 3
  | .invokevirtual _ => 3
  | _ => 1
/-- a branch's target -/
def pm_tok (ins : Instr) (pc aux : Nat) : Prop := match ins with
  | .ifCond _ o => (pc : Int) + o = (aux : Int)
  | .if_icmp _ o => (pc : Int) + o = (aux : Int)
  | .goto o => (pc : Int) + o = (aux : Int)
  | _ => True
section PMG
variable {p : Program} {l : Launch} {e : Env} {R : Room} {s : State} {m : MethodId} {args : Array Value} {below : List Frame} {meth : Method} {c : Code} {H : Heap} {locs : List Loc} {cells slots : Nat} {Q : State → Prop}
variable {cc : ByteArray} {pc aux : Nat} {ls : Array Slot} {ad : Nat → Nat} {ins : Instr} {st st' : List Value} {nL : Nat} {L L' : List (Option Value)}
theorem pm_beq1 {v : Value} (h : Nat.beq v.category 1 = true) : (pm_u ad v).category = 1 := by rw [pm_u_cat]; exact Nat.eq_of_beq_eq_true h
theorem pm_beq2 {v : Value} (h : Nat.beq v.category 2 = true) : (pm_u ad v).category = 2 := by rw [pm_u_cat]; exact Nat.eq_of_beq_eq_true h
theorem pm_bif {α : Type} {b : Bool} {x y : α} (h : (bif b then some x else none) = some y) : b = true ∧ x = y := by
  cases b with
  | true => exact ⟨rfl, Option.some.inj h⟩
  | false => cases h
theorem pm_bifn {α : Type} {b : Bool} {x y : α} (h : (bif b then none else some x) = some y) : b = false ∧ x = y := by
  cases b with
  | false => exact ⟨rfl, Option.some.inj h⟩
  | true => cases h
theorem pm_and {a b : Bool} (h : (a && b) = true) : a = true ∧ b = true := by
  cases a with
  | true => exact ⟨rfl, h⟩
  | false => cases h
set_option maxHeartbeats 4000000 in
theorem pm_alu_ok (hx : p.tables.exec = Jvm.exec) (hb : c.code = cc) (hd : decode cc pc = .ok (ins, pm_len ins aux)) (h : pm_alu ins st = some st')
    (k : W p l e R s m args below meth c H locs cells slots Q (F0 m (pc + 1) ls (st'.map (pm_u ad)))) : W p l e R s m args below meth c H locs cells slots Q (F0 m pc ls (st.map (pm_u ad))) := by
  unfold pm_alu at h
  split at h
  · cases h; exact lv_iconst hx hb hd rfl k
  · cases h; exact lv_lconst hx hb hd rfl k
  · cases h; exact lv_null hx hb hd k
  · cases h; exact lv_iadd hx hb hd k
  · cases h; exact lv_isub hx hb hd k
  · cases h; exact lv_imul hx hb hd k
  · cases h; exact lv_iand hx hb hd k
  · cases h; exact lv_ior hx hb hd k
  · cases h; exact lv_ixor hx hb hd k
  · obtain ⟨h1, rfl⟩ := pm_bifn h; exact lv_idiv hx hb hd (of_decide_eq_false h1) k
  · obtain ⟨h1, rfl⟩ := pm_bifn h; exact lv_irem hx hb hd (of_decide_eq_false h1) k
  · cases h; exact lv_ineg hx hb hd k
  · cases h; exact lv_ishl hx hb hd k
  · cases h; exact lv_ishr hx hb hd k
  · cases h; exact lv_iushr hx hb hd rfl k
  · cases h; exact lv_ladd hx hb hd k
  · cases h; exact lv_lsub hx hb hd k
  · cases h; exact lv_lmul hx hb hd k
  · cases h; exact lv_land hx hb hd k
  · cases h; exact lv_lor hx hb hd k
  · cases h; exact lv_lxor hx hb hd k
  · obtain ⟨h1, rfl⟩ := pm_bifn h; exact lv_ldiv hx hb hd (of_decide_eq_false h1) k
  · obtain ⟨h1, rfl⟩ := pm_bifn h; exact lv_lrem hx hb hd (of_decide_eq_false h1) k
  · cases h; exact lv_lneg hx hb hd k
  · cases h; exact lv_lshl hx hb hd rfl k
  · cases h; exact lv_lshr hx hb hd rfl k
  · cases h; exact lv_lushr hx hb hd rfl k
  · cases h; exact W.lcmp hx hb hd k
  · cases h; exact lv_i2l hx hb hd rfl k
  · cases h; exact lv_l2i hx hb hd rfl k
  · cases h; exact lv_i2b hx hb hd rfl k
  · cases h; exact lv_i2s hx hb hd rfl k
  · cases h; exact lv_i2c hx hb hd rfl k
  · obtain ⟨h1, rfl⟩ := pm_bif h; exact lv_dup hx hb hd (pm_beq1 h1) k
  · obtain ⟨h1, rfl⟩ := pm_bif h; exact lv_pop hx hb hd (pm_beq1 h1) k
  · obtain ⟨h1, rfl⟩ := pm_bif h; exact lv_dup_x1 hx hb hd (pm_beq1 (pm_and h1).1) (pm_beq1 (pm_and h1).2) k
  · obtain ⟨h1, rfl⟩ := pm_bif h; exact lv_dup_x2 hx hb hd (pm_beq1 (pm_and h1).1) (pm_beq1 (pm_and (pm_and h1).2).1) (pm_beq1 (pm_and (pm_and h1).2).2) k
  · next v r =>
    cases hv : Nat.beq v.category 2 with
    | true => rw [hv] at h; cases h; exact lv_dup2_2 hx hb hd (pm_beq2 hv) k
    | false =>
      rw [hv] at h
      cases r with
      | nil => cases h
      | cons w q => obtain ⟨h1, rfl⟩ := pm_bif h; exact lv_dup2_11 hx hb hd (pm_beq1 (pm_and h1).1) (pm_beq1 (pm_and h1).2) k
  · obtain ⟨h1, rfl⟩ := pm_bif h; exact lv_pop2_2 hx hb hd (pm_beq2 h1) k
  · cases h
theorem pm_load_ok {v : Value} {n : Nat} (hx : p.tables.exec = Jvm.exec) (hb : c.code = cc) (hd : decode cc pc = .ok (ins, pm_len ins aux)) (hl : pm_lr ad ls nL L) (h : pm_load ins L = some (v, n))
    (k : W p l e R s m args below meth c H locs cells slots Q (F0 m (pc + n) ls ((v :: st).map (pm_u ad)))) : W p l e R s m args below meth c H locs cells slots Q (F0 m pc ls (st.map (pm_u ad))) := by
  unfold pm_load at h
  split at h
  · split at h
    · next x hi => cases h; exact lv_iload_n hx hb hd rfl (hl.2.2.2 _ _ hi) k
    · cases h
  · split at h
    · next x hi => cases h; exact lv_iload hx hb hd (hl.2.2.2 _ _ hi) k
    · cases h
  · split at h
    · next x hi => cases h; exact lv_lload_n hx hb hd rfl (hl.2.2.2 _ _ hi) k
    · cases h
  · split at h
    · next x hi => cases h; exact lv_lload hx hb hd (hl.2.2.2 _ _ hi) k
    · cases h
  · split at h
    · next x hi => cases h; exact lv_aload_n hx hb hd rfl (hl.2.2.2 _ _ hi) k
    · next hi => cases h; exact lv_aload_nN hx hb hd rfl (hl.2.2.2 _ _ hi) k
    · cases h
  · split at h
    · next x hi => cases h; exact lv_aload hx hb hd (hl.2.2.2 _ _ hi) k
    · next hi => cases h; exact lv_aloadN hx hb hd (hl.2.2.2 _ _ hi) k
    · cases h
  · cases h
theorem pm_store_ok {n : Nat} (hx : p.tables.exec = Jvm.exec) (hb : c.code = cc) (hd : decode cc pc = .ok (ins, pm_len ins aux)) (hl : pm_lr ad ls nL L) (h : pm_store ins L st = some (L', st', n))
    (k : ∀ ls' : Array Slot, pm_lr ad ls' nL L' → W p l e R s m args below meth c H locs cells slots Q (F0 m (pc + n) ls' (st'.map (pm_u ad)))) : W p l e R s m args below meth c H locs cells slots Q (F0 m pc ls (st.map (pm_u ad))) := by
  have lt : ∀ {i : Nat}, Nat.blt i L.length = true → i < nL := fun {i} q => by rw [← hl.2.1]; exact Nat.le_of_ble_eq_true q
  unfold pm_store at h
  split at h
  · next k0 x r =>
    obtain ⟨h1, h2⟩ := pm_bif h
    cases h2
    exact lv_istore_n hx hb hd rfl hl.has (lt h1) rfl (fun ls' h' => k ls' (hl.set1 (v := .int x) h'))
  · next i x r =>
    obtain ⟨h1, h2⟩ := pm_bif h
    cases h2
    exact lv_istore hx hb hd hl.has (lt h1) rfl (fun ls' h' => k ls' (hl.set1 (v := .int x) h'))
  · next k0 x r =>
    obtain ⟨h1, h2⟩ := pm_bif h
    cases h2
    exact lv_lstore_n hx hb hd rfl hl.has (lt h1) rfl (fun ls' h' => k ls' (hl.set2 (v := .long x) h'))
  · next i x r =>
    obtain ⟨h1, h2⟩ := pm_bif h
    cases h2
    exact lv_lstore hx hb hd hl.has (lt h1) rfl (fun ls' h' => k ls' (hl.set2 (v := .long x) h'))
  · next k0 x r =>
    obtain ⟨h1, h2⟩ := pm_bif h
    cases h2
    exact lv_astore_n hx hb hd rfl hl.has (lt h1) rfl (fun ls' h' => k ls' (hl.set1 (v := .ref x) h'))
  · next i x r =>
    obtain ⟨h1, h2⟩ := pm_bif h
    cases h2
    exact lv_astore hx hb hd hl.has (lt h1) rfl (fun ls' h' => k ls' (hl.set1 (v := .ref x) h'))
  · next r i d =>
    split at h
    · next x hi =>
      obtain ⟨h1, h2⟩ := pm_bif h
      cases h2
      obtain ⟨k9, hk9⟩ := List.getElem?_of_mem ((pm_al_mem ad L 0 (i, .int x)).mpr ⟨i, .int x, hi, by rw [show 0 + i = i by omega]; rfl⟩)
      exact lv_iinc hx hb hd hl.has hk9 rfl (lt h1) rfl (fun ls' h' => k ls' (hl.set1 (v := .int (x + Int32.ofInt d)) h'))
    · cases h
  · cases h
theorem pm_tgt_ok {o : Int} {t : Nat} (h : pm_tgt pc o = some t) : (pc : Int) + o = (t : Int) := by
  unfold pm_tgt at h
  split at h
  · next t' ht => cases h; exact ht
  · cases h
theorem pm_dt {P : Prop} {_ : Decidable P} {x y t : Nat} (h : (bif decide P then x else y) = t) (q : P) : x = t := by
  rw [show decide P = true from decide_eq_true q] at h
  exact h
theorem pm_df {P : Prop} {_ : Decidable P} {x y t : Nat} (h : (bif decide P then x else y) = t) (q : ¬ P) : y = t := by
  rw [show decide P = false from decide_eq_false q] at h
  exact h
theorem pm_pair {α β : Type} {a a' : α} {b b' : β} (h : some (a, b) = some (a', b')) : a = a' ∧ b = b' := by
  cases h
  exact ⟨rfl, rfl⟩
set_option maxHeartbeats 4000000 in
theorem pm_br_ok {pc' : Nat} (hx : p.tables.exec = Jvm.exec) (hb : c.code = cc) (hd : decode cc pc = .ok (ins, pm_len ins aux)) (ht : pm_tok ins pc aux) (h : pm_br ins aux pc st = some (pc', st'))
    (k : W p l e R s m args below meth c H locs cells slots Q (F0 m pc' ls (st'.map (pm_u ad)))) : W p l e R s m args below meth c H locs cells slots Q (F0 m pc ls (st.map (pm_u ad))) := by
  unfold pm_br at h
  split at h
  · obtain ⟨h1, rfl⟩ := pm_pair h; exact lv_if_eq hx hb hd ht (fun q => by rw [pm_dt h1 q]; exact k) (fun q => by rw [pm_df h1 q]; exact k)
  · obtain ⟨h1, rfl⟩ := pm_pair h; exact lv_if_ne hx hb hd ht (fun q => by rw [pm_df h1 q]; exact k) (fun q => by rw [pm_dt h1 q]; exact k)
  · obtain ⟨h1, rfl⟩ := pm_pair h; exact lv_if_lt hx hb hd ht (fun q => by rw [pm_dt h1 q]; exact k) (fun q => by rw [pm_df h1 q]; exact k)
  · obtain ⟨h1, rfl⟩ := pm_pair h; exact lv_if_ge hx hb hd ht (fun q => by rw [pm_dt h1 q]; exact k) (fun q => by rw [pm_df h1 q]; exact k)
  · obtain ⟨h1, rfl⟩ := pm_pair h; exact lv_if_gt hx hb hd ht (fun q => by rw [pm_dt h1 q]; exact k) (fun q => by rw [pm_df h1 q]; exact k)
  · obtain ⟨h1, rfl⟩ := pm_pair h; exact lv_if_le hx hb hd ht (fun q => by rw [pm_dt h1 q]; exact k) (fun q => by rw [pm_df h1 q]; exact k)
  · obtain ⟨h1, rfl⟩ := pm_pair h; exact lv_icmp_eq hx hb hd ht (fun q => by rw [pm_dt h1 q]; exact k) (fun q => by rw [pm_df h1 q]; exact k)
  · obtain ⟨h1, rfl⟩ := pm_pair h; exact lv_icmp_ne hx hb hd ht (fun q => by rw [pm_df h1 q]; exact k) (fun q => by rw [pm_dt h1 q]; exact k)
  · obtain ⟨h1, rfl⟩ := pm_pair h; exact lv_icmp_lt hx hb hd ht (fun q => by rw [pm_dt h1 q]; exact k) (fun q => by rw [pm_df h1 q]; exact k)
  · obtain ⟨h1, rfl⟩ := pm_pair h; exact lv_icmp_ge hx hb hd ht (fun q => by rw [pm_dt h1 q]; exact k) (fun q => by rw [pm_df h1 q]; exact k)
  · obtain ⟨h1, rfl⟩ := pm_pair h; exact lv_icmp_gt hx hb hd ht (fun q => by rw [pm_dt h1 q]; exact k) (fun q => by rw [pm_df h1 q]; exact k)
  · obtain ⟨h1, rfl⟩ := pm_pair h; exact lv_icmp_le hx hb hd ht (fun q => by rw [pm_dt h1 q]; exact k) (fun q => by rw [pm_df h1 q]; exact k)
  · obtain ⟨rfl, rfl⟩ := pm_pair h; exact lv_goto hx hb hd ht k
  · next d lo hi offs x r =>
    cases hc : (decide (x.toInt < lo) || decide (hi < x.toInt)) with
    | true =>
      rw [hc] at h
      have hor : x.toInt < lo ∨ hi < x.toInt := by
        rcases (Bool.or_eq_true _ _).mp hc with q | q
        · exact Or.inl (of_decide_eq_true q)
        · exact Or.inr (of_decide_eq_true q)
      simp only [cond_true] at h
      split at h
      · next t ht2 =>
        obtain ⟨rfl, rfl⟩ := pm_pair h
        exact lv_tableOut hx hb hd hor (pm_tgt_ok ht2) k
      · cases h
    | false =>
      rw [hc] at h
      have hn := (Bool.or_eq_false_iff.mp hc)
      simp only [cond_false] at h
      split at h
      · next o ho =>
        split at h
        · next t ht2 =>
          obtain ⟨rfl, rfl⟩ := pm_pair h
          exact lv_tableIn hx hb hd (of_decide_eq_false hn.1) (of_decide_eq_false hn.2) ho (pm_tgt_ok ht2) k
        · cases h
      · cases h
  · next d ps x r =>
    cases hc : (ps.toList.zip (ps.toList.drop 1)).all (fun (a, next) => a.1 < next.1) with
    | true =>
      rw [hc] at h
      simp only [cond_true] at h
      split at h
      · next t ht2 =>
        obtain ⟨rfl, rfl⟩ := pm_pair h
        exact lv_lookup hx hb hd hc rfl (pm_tgt_ok ht2) k
      · cases h
    | false =>
      rw [hc] at h
      cases h
  · cases h
end PMG

/-! PM: what the claim's tables must give (pm_lk: a link; pm_ck: an object's kind; pm_mk: a method), and groups 1 and 5 -/
/-- a static; the one that is only carried may hold null, too -/
def pm_zz (ad : Nat → Nat) (A : Nat → Prop) (U : State) (H : Heap) (z : String × String × String × Value) : Prop := va_Z z.1 z.2.1 z.2.2.1 (pm_u ad z.2.2.2) A U H ∨ (z.2.2.2 = .ref 1048579 ∧ va_Z z.1 z.2.1 z.2.2.1 .null A U H)
/-- what stands outside the world, read alone: statics, literals, tables, nest mates -/
def pm_RO (zs : List (String × String × String × Value)) (rs : List (String × Nat × String × Nat)) (aos : List String) (nws : List Cond) (K : pm_K) (rof : Nat → String × String × String) (ad : Nat → Nat) (A : Nat → Prop) (U : State) (H : Heap) : Prop :=
  (∀ z ∈ zs, pm_zz ad A U H z) ∧ (∀ r ∈ rs, vk_R r.1 r.2.1 r.2.2.1 (ad r.2.2.2) U) ∧
  (∀ (a t n : Nat) (f : Nat → Value), pm_rat K a = some (t, n, f) → ∃ ty : FieldType, ((t = 0 ∧ ty = .int) ∨ (t = 3 ∧ ty = .byte)) ∧ va_T ty (ad a) n (fun j => pm_u ad (f j)) A U H) ∧
  (∀ (a j : Nat) (v : Value), Nat.blt a 1048576 = false → pm_ro K (a - 1048576) j = some v → va_O "java/lang/String" (ad a) A U H ∧ va_OF (rof j).1 (rof j).2.1 (rof j).2.2 (pm_u ad v) (ad a) A U H) ∧
  (∀ C ∈ aos, va_AO C U) ∧ (∀ w ∈ nws, va_Nw w U)
def pm_nwf (nws : List Cond) : Prop := ∀ w ∈ nws, (∃ (a : String) (i : Nat) (b n d h : String), w = .fieldLinkNest a i b n d h) ∨ (∃ (a : String) (i : Nat) (x : MethodName) (h : String), w = .methodLinkNest a i x h)
theorem pm_RO.warm {zs : List (String × String × String × Value)} {rs : List (String × Nat × String × Nat)} {aos : List String} {nws : List Cond} {K : pm_K} {rof : Nat → String × String × String} {ad : Nat → Nat} {A : Nat → Prop} {s U : State} {H H1 : Heap} (hn : pm_nwf nws) (hW : s.WarmedH U.vm) (hq : ∀ a : Nat, a < H.size → ¬ A a → H1[a]? = H[a]?) (h : pm_RO zs rs aos nws K rof ad A s H) : pm_RO zs rs aos nws K rof ad A U H1 := by
  obtain ⟨h1, h2, h3, h4, h5, h6⟩ := h
  refine ⟨fun z hz => (h1 z hz).imp (fun h => (va_Z.moved hW.alike h).kept hq) (fun h => ⟨h.1, (va_Z.moved hW.alike h.2).kept hq⟩), fun r hr => (h2 r hr).warm hW, fun a t n f hf => ?_, fun a j v ha hv => ?_, fun C hC => va_AO.moved hW.alike (h5 C hC), fun w hw => ?_⟩
  · obtain ⟨ty, e, hT⟩ := h3 a t n f hf
    exact ⟨ty, e, (va_T.moved hW.alike hT).kept hq⟩
  · exact ⟨(va_O.moved hW.alike (h4 a j v ha hv).1).kept hq, (va_OF.moved hW.alike (h4 a j v ha hv).2).kept hq⟩
  · rcases hn w hw with ⟨a, i, b, n, d, h, rfl⟩ | ⟨a, i, x, h, rfl⟩
    · exact va_Nw.warmF hW (h6 _ hw)
    · exact va_Nw.warmM hW (h6 _ hw)
theorem pm_RO.same {zs : List (String × String × String × Value)} {rs : List (String × Nat × String × Nat)} {aos : List String} {nws : List Cond} {K : pm_K} {rof : Nat → String × String × String} {ad : Nat → Nat} {A : Nat → Prop} {u U : State} (hn : pm_nwf nws) (hv : U.vm = u.vm) (hh : U.heap = u.heap) (h : pm_RO zs rs aos nws K rof ad A u u.heap) : pm_RO zs rs aos nws K rof ad A U U.heap := by
  have hal : u.vm.Alike U.vm := by rw [hv]; exact Vm.Alike.refl _
  have hq : ∀ a : Nat, a < u.heap.size → ¬ A a → U.heap[a]? = u.heap[a]? := fun a _ _ => by rw [hh]
  obtain ⟨h1, h2, h3, h4, h5, h6⟩ := h
  refine ⟨fun z hz => (h1 z hz).imp (fun h => (va_Z.moved hal h).kept hq) (fun h => ⟨h.1, (va_Z.moved hal h.2).kept hq⟩), fun r hr => (h2 r hr).same hv, fun a t n f hf => ?_, fun a j v ha hv2 => ?_, fun C hC => va_AO.moved hal (h5 C hC), fun w hw => ?_⟩
  · obtain ⟨ty, e, hT⟩ := h3 a t n f hf
    exact ⟨ty, e, (va_T.moved hal hT).kept hq⟩
  · exact ⟨(va_O.moved hal (h4 a j v ha hv2).1).kept hq, (va_OF.moved hal (h4 a j v ha hv2).2).kept hq⟩
  · rcases hn w hw with ⟨a, i, b, n, d, h, rfl⟩ | ⟨a, i, x, h, rfl⟩
    · exact va_Nw.same rfl hv.symm (h6 _ hw)
    · exact va_Nw.same rfl hv.symm (h6 _ hw)
abbrev pm_M : Type := Nat → MethodName × ByteArray × Nat × Option FieldType
/-- a link -/
def pm_lk (K : pm_K) (M : pm_M) (cl : List vw_C) (ALL nws : List Cond) (zs : List (String × String × String × Value)) (rs : List (String × Nat × String × Nat)) (aos : List String) (rof : Nat → String × String × String) (own : String) (i kd a b : Nat) (v : Value) : Prop :=
  (kd = 6 → ∃ (C : String) (T : u_T) (N : Nat), cl[a]? = some (C, T, N) ∧ b < N ∧ Cond.fieldLink own i C (T b).2.1 (T b).2.2.1 ∈ ALL) ∧
  (kd = 7 → Cond.fieldLink own i (rof a).1 (rof a).2.1 (rof a).2.2 ∈ ALL) ∧
  (kd = 8 → ∃ C n d : String, (C, n, d, v) ∈ zs ∧ v ≠ .ref 1048579 ∧ Cond.fieldLink own i C n d ∈ ALL) ∧
  (kd = 9 → ∃ (C : String) (T : u_T), cl[a]? = some (C, T, b) ∧ Cond.classLink own i C ∈ ALL) ∧
  (kd = 10 → ∃ x : Int32, v = .int x ∧ Cond.constant own i x ∈ ALL) ∧
  (kd = 11 → ∃ x : Int64, v = .long x ∧ Cond.constantLong own i x ∈ ALL) ∧
  (kd = 12 → ∃ (tx : String) (k : Nat), v = .ref k ∧ (own, i, tx, k) ∈ rs) ∧
  (kd = 13 → ∃ (C : String) (T : u_T) (N : Nat), cl[pm_eci K]? = some (C, T, N) ∧ C ∈ aos ∧ Cond.classLink own i C ∈ ALL) ∧
  (kd = 4 → Cond.methodLink own i Lib.objectInit ∈ ALL) ∧
  (kd = 5 → Cond.methodLink own i arraycopyName ∈ ALL) ∧
  ((kd = 1 ∨ kd = 2 ∨ kd = 3) → (Cond.methodLink own i (M a).1 ∈ ALL ∨ ∃ h, Cond.methodLinkNest own i (M a).1 h ∈ nws) ∧ (parseMethodDescriptor (M a).1.desc).map (fun d => d.parameters.length) = some b) ∧
  (kd = 1 → Cond.static (M a).1 ∈ ALL) ∧
  (kd = 2 → Cond.instanceMethod (M a).1 ∈ ALL ∧ Cond.selects (M a).1.cls (M a).1 (M a).1 ∈ ALL ∧ (∀ ci, v = .ref ci → ∃ (T : u_T) (N : Nat), cl[ci]? = some ((M a).1.cls, T, N)) ∧ (v = .null → (M a).1.cls = "java/lang/String")) ∧
  (kd = 3 → (M a).1.name = "<init>" ∧ Cond.instanceMethod (M a).1 ∈ ALL ∧ (M a).2.2.2 = none) ∧
  (kd = 15 → Cond.methodLink own i Lib.Math.max.name ∈ ALL) ∧ (kd = 16 → Cond.methodLink own i Lib.Math.min.name ∈ ALL) ∧ (kd = 17 → Cond.methodLink own i Lib.Math.abs.name ∈ ALL)
/-- an object's kind -/
def pm_ck (K : pm_K) (cl : List vw_C) (ALL : List Cond) : Prop := ∀ (ci : Nat) (C : String) (T : u_T) (N : Nat), cl[ci]? = some (C, T, N) →
  (∀ w ∈ u_ws C T N, w ∈ ALL) ∧ (∀ k, k < N → parseFieldDescriptor (T k).2.2.1 = some (pm_fty K ci k)) ∧ (∀ a, a < N → ∀ b, b < N → a ≠ b → (T a).2.1 ≠ (T b).2.1) ∧ (∀ (ad : Nat → Nat) (j : Nat), j < N → defaultValue (pm_fty K ci j) = vp_V ((pm_new0 K ci).map (pm_u ad)) j) ∧ Cond.instantiable C N ∈ ALL ∧ Cond.initialized C ∈ ALL ∧ (∀ k, k < N → (T k).1 = C)
/-- words that every run needs -/
def pm_base (ALL : List Cond) : Prop := Cond.instanceMethod Lib.objectInit ∈ ALL ∧ Cond.code Lib.objectInit ⟨#[0xb1]⟩ 1 none ∈ ALL ∧ Cond.native arraycopyName ∈ ALL ∧ Cond.static arraycopyName ∈ ALL ∧ Cond.initialized "java/lang/System" ∈ ALL ∧ Cond.arrayClass .int ∈ ALL ∧ Cond.arrayClass .boolean ∈ ALL ∧ Cond.arrayClass .long ∈ ALL ∧
  Cond.initialized "java/lang/Math" ∈ ALL ∧ Cond.static Lib.Math.max.name ∈ ALL ∧ Cond.static Lib.Math.min.name ∈ ALL ∧ Cond.static Lib.Math.abs.name ∈ ALL ∧ Cond.code Lib.Math.max.name Lib.Math.max.code 2 (some .int) ∈ ALL ∧ Cond.code Lib.Math.min.name Lib.Math.min.code 2 (some .int) ∈ ALL ∧ Cond.code Lib.Math.abs.name Lib.Math.abs.code 1 (some .int) ∈ ALL
/-- a putfield of a final field stands in the constructor of its own kind -/
def pm_fin (K : pm_K) (cl : List vw_C) (y : MethodName) (ow : Nat) (ins : Instr) : Prop := ∀ i : Nat, ins = .putfield i → ∀ (ci k : Nat) (v : Value), pm_lnk K ow i = some (6, ci, k, v) → ∀ (C : String) (T : u_T) (N : Nat), cl[ci]? = some (C, T, N) → (T k).2.2.2 = true → y.name = "<init>" ∧ C = y.cls
/-- the arrays' kinds -/
def pm_tys (dA : Nat → ClassId) (E : String) : List (ClassId × FieldType) := [(dA 0, .int), (dA 1, .boolean), (dA 2, .long), (dA 3, .int), (dA 4, .object E)]
section PMM
variable {p : Program} {l : Launch} {e : Env} {R : Room} {s : State} {m : MethodId} {args : Array Value} {below : List Frame} {meth : Method} {c : Code} {H : Heap} {locs : List Loc} {cells slots : Nat} {Q : State → Prop}
variable {cc : ByteArray} {pc aux : Nat} {ls : Array Slot} {B : Nat} {ra : Nat → Nat} {ins : Instr} {st st' : List Value} {ph ph' : pm_H}
variable {K : pm_K} {M : pm_M} {cl : List vw_C} {ALL nws Ts : List Cond} {zs : List (String × String × String × Value)} {rs : List (String × Nat × String × Nat)} {aos : List String} {rof : Nat → String × String × String} {own : String} {ow : Nat} {D : va_G} {dA : Nat → ClassId} {E : String} {al : Bool}
theorem pm_ldcwS {rest : List Value} (hexec : p.tables.exec = Jvm.exec) (hb : c.code = cc) {own tx : String} {index q : Nat} (hown : s.vm.findClass own = some m.cls) (hZ : vk_R own index tx q s) (hdg : decode cc pc = .ok (.ldc_w index, 3))
    (k : W p l e R s m args below meth c H locs cells slots Q (F0 m (pc + 3) ls (.ref q :: rest))) : W p l e R s m args below meth c H locs cells slots Q (F0 m pc ls rest) := by
  intro T hT X
  obtain ⟨t, a1, b1⟩ := k T hT X
  have hev : (Term.string own index).eval args s none [] s = some (.ref q) := hZ.2
  obtain ⟨kk, cf, i, a', hk, hcf, hcp, -, hr, hev'⟩ := Cond.stringRef_spec hown hZ.1
  cases hev.symm.trans hev'
  obtain ⟨k', hk', he⟩ := X.warmed.alike.2.2 _ _ hk
  have hr' : k'.resolved[index]? = some (some (.string q)) := by
    rcases X.warmed.entry hk hk' index with h | ⟨h, -⟩
    · rw [h]; exact hr
    · rw [hr] at h; cases h
  refine ⟨t, ?_, b1⟩
  have hdg2 : decode c.code pc = .ok (.ldc_w index, 3) := by rw [hb]; exact hdg
  jvm_step X.here [hexec, hdg2, ldc_w.wp_string (e := e) (s := T) (f := F0 m pc ls rest) X.here.top hk' (by rw [he]; exact hcf) hcp hr']
  exact a1
theorem pm_push_ok {v : Value} {n : Nat} (hx : p.tables.exec = Jvm.exec) (hb : c.code = cc) (hd : decode cc pc = .ok (ins, pm_len ins aux)) (hown : s.vm.findClass own = some m.cls) (hts : ∀ w ∈ ALL, w.before args s = true)
    (hlk : ∀ i kd a b v, pm_lnk K ow i = some (kd, a, b, v) → pm_lk K M cl ALL nws zs rs aos rof own i kd a b v) (hRO : pm_RO zs rs aos nws K rof (pm_ad B ra) (fun q => B ≤ q) s s.heap) (hS : va_S (fun q => B ≤ q) s.heap H locs) (h : pm_push K ow ins = some (v, n))
    (k : W p l e R s m args below meth c H locs cells slots Q (F0 m (pc + n) ls ((v :: st).map (pm_u (pm_ad B ra))))) : W p l e R s m args below meth c H locs cells slots Q (F0 m pc ls (st.map (pm_u (pm_ad B ra)))) := by
  unfold pm_push at h
  split at h
  · cases h; exact lv_bipush hx hb hd rfl k
  · cases h; exact lv_sipush hx hb hd rfl k
  · next i =>
    split at h
    · next a b w hw =>
      obtain ⟨rfl, rfl⟩ := pm_pair h
      obtain ⟨x, rfl, hc⟩ := (hlk _ _ _ _ _ hw).2.2.2.2.1 rfl
      exact lv_ldc hx hb hown (hts _ hc) hd k
    · next a b w hw =>
      obtain ⟨rfl, rfl⟩ := pm_pair h
      obtain ⟨tx, k9, rfl, hc⟩ := (hlk _ _ _ _ _ hw).2.2.2.2.2.2.1 rfl
      exact va_ldcS hx hb hown (hRO.2.1 _ hc) hd k
    · cases h
  · next i =>
    split at h
    · next a b w hw =>
      obtain ⟨rfl, rfl⟩ := pm_pair h
      obtain ⟨x, rfl, hc⟩ := (hlk _ _ _ _ _ hw).2.2.2.2.1 rfl
      exact lv_ldcw hx hb hown (hts _ hc) hd k
    · next a b w hw =>
      obtain ⟨rfl, rfl⟩ := pm_pair h
      obtain ⟨tx, k9, rfl, hc⟩ := (hlk _ _ _ _ _ hw).2.2.2.2.2.2.1 rfl
      exact pm_ldcwS hx hb hown (hRO.2.1 _ hc) hd k
    · cases h
  · next i =>
    split at h
    · next a b w hw =>
      obtain ⟨rfl, rfl⟩ := pm_pair h
      obtain ⟨x, rfl, hc⟩ := (hlk _ _ _ _ _ hw).2.2.2.2.2.1 rfl
      exact lv_ldc2 hx hb hown (hts _ hc) hd k
    · cases h
  · next i =>
    split at h
    · next a b w hw =>
      obtain ⟨rfl, rfl⟩ := pm_pair h
      obtain ⟨C, n9, d9, hz, hne, hc⟩ := (hlk _ _ _ _ _ hw).2.2.1 rfl
      rcases hRO.1 _ hz with hz9 | ⟨hz9, -⟩
      · exact va_gets hx hb hz9 hS hown (hts _ hc) (fun _ h9 => h9) hd k
      · exact absurd hz9 hne
    · cases h
  · cases h
/-- an object's field is written: the heap keeps its size -/
theorem pm_put (hx : p.tables.exec = Jvm.exec) (hb : c.code = cc) (hown : s.vm.findClass own = some m.cls) (hts : ∀ w ∈ ALL, w.before args s = true) (hnw : ∀ w ∈ nws, va_Nw w s) {tys : List (ClassId × FieldType)} (hK : va_K D cl tys s) {ws : va_W} (hP : va_P D cl ws H) (hD : va_D (fun q => B ≤ q) ws) (hS0 : va_S (fun q => B ≤ q) s.heap H locs) {a q0 ci k i N : Nat} {C : String} {T : u_T} {fs : List Value} (he : ws[q0]? = some (a, .inr (ci, fs))) (hc : cl[ci]? = some (C, T, N)) (hk : k < N) (ty0 : Nat → FieldType)
    (hin : ∀ w ∈ u_ws C T N, w ∈ ALL) (hty : ∀ k, k < N → parseFieldDescriptor (T k).2.2.1 = some (ty0 k)) (hnm : ∀ a, a < N → ∀ b, b < N → a ≠ b → (T a).2.1 ≠ (T b).2.1) (hT1 : (T k).1 = C)
    (hlink : Cond.fieldLink own i C (T k).2.1 (T k).2.2.1 ∈ ALL ∨ ∃ h, Cond.fieldLinkNest own i C (T k).2.1 (T k).2.2.1 h ∈ nws) (hfin : (T k).2.2.2 = true → meth.name = "<init>" ∧ C = own ∧ Cond.fieldLink own i C (T k).2.1 (T k).2.2.1 ∈ ALL) {v : Value} (hn : narrow (ty0 k) v = v) (hfit : fits (ty0 k) v = true) (hl : k < fs.length) {rest : List Value}
    (hdg : decode cc pc = .ok (.putfield i, 3)) (kk : ∀ (H1 : Heap) (locs1 : List Loc), H1.size = H.size → va_P D cl (ws.set q0 (a, .inr (ci, fs.set k v))) H1 → va_S (fun q => B ≤ q) s.heap H1 locs1 → W p l e R s m args below meth c H1 locs1 cells slots Q (F0 m (pc + 3) ls rest)) : W p l e R s m args below meth c H locs cells slots Q (F0 m pc ls (v :: .ref a :: rest)) := by
  have hap := va_apart (own := own) hts hin ty0 hty hnm hK hc
  obtain ⟨r, h1, cell, q1, q2, q3, q4⟩ := hP q0 _ he
  have hr : r = (C, T, N) := Option.some.inj (h1.symm.trans hc)
  subst hr
  obtain ⟨hS, hfc, kC, hkC, hkind⟩ := hK.1 ci _ hc
  obtain ⟨cf, kf, fi, f, hi, hsl⟩ := hS k hk
  have hlay := hts _ (hin _ (u_in_lay hk))
  have hst := (u_facts hfc hkC (u_lays hts hin hk) hi).1
  have hi2 : s.fieldFound? C (T k).2.1 (T k).2.2.1 = some (cf, kf, fi, f) := by rw [← hT1]; exact hi
  have fin : ∀ H' : Heap, H'[a]? = some (cell.setSlot f.slot v) → H'.size = H.size → (∀ q, q ≠ a → H'[q]? = H[q]?) → W p l e R s m args below meth c H' (locs ++ [⟨a, f.slot⟩]) cells slots Q (F0 m (pc + 3) ls rest) := by
    intro H' e1 e2 e3
    rw [hsl] at e1 ⊢
    exact kk H' _ e2 (hP.set hD he ⟨_, hc, t_OB.to (V := updV (vp_V fs) k v) ⟨_, e1, q2, q3, t_set q4 hap hk v⟩ (fun j _ => vp_updV_set hl v j)⟩ e3) (hS0.put e2 e3 (hD.2 q0 _ he))
  by_cases hf : (T k).2.2.2 = true
  · obtain ⟨hin2, hCo, hlk⟩ := hfin hf
    unfold u_lay at hlay
    rw [if_pos hf] at hlay
    have hcf : m.cls = cf := by
      obtain ⟨_, _, c', _, _, _, -, -, hf', -, -, -, hown2, -⟩ := Cond.laysFinal_spec hlay
      have e1 : c' = cf := by have := hi.symm.trans hf'; simp at this; exact this.1.symm
      rw [hT1, hCo] at hown2
      rw [← e1]; exact Option.some.inj (hown.symm.trans hown2)
    have h6 := u_fits hfc hkC hkind (Or.inr hlay) hi (hty k hk) hn hfit
    exact W.putFinK hx hb hown (hts _ hlk) hi2 hst hcf hin2 (by rw [q2]; exact h6) q1 q3 (by rw [hsl]; exact k2_hasslot (q4 k hk)) rfl rfl hdg fin
  · unfold u_lay at hlay
    rw [if_neg hf] at hlay
    have h6 := u_store hfc hkC hkind hlay hi (hty k hk) hn hfit
    rcases hlink with hlk | ⟨h, hlk⟩
    · exact W.putK hx hb (f := f) ⟨hown, hts _ hlk, ⟨_, _, _, hi2⟩, hst⟩ (by rw [q2]; exact h6) q1 q3 (by rw [hsl]; exact k2_hasslot (q4 k hk)) rfl rfl hdg fin
    · exact va_WputK hx hb (f := f) hown (va_Nw.use rfl (hnw _ hlk)) hi2 hst (by rw [q2]; exact h6) q1 q3 (by rw [hsl]; exact k2_hasslot (q4 k hk)) rfl rfl hdg fin
theorem pm_get (hx : p.tables.exec = Jvm.exec) (hb : c.code = cc) (hown : s.vm.findClass own = some m.cls) (hts : ∀ w ∈ ALL, w.before args s = true) (hnw : ∀ w ∈ nws, va_Nw w s) {tys : List (ClassId × FieldType)} (hK : va_K D cl tys s) {ws : va_W} (hP : va_P D cl ws H) {a q0 ci k i N : Nat} {C : String} {T : u_T} {fs : List Value} (he : ws[q0]? = some (a, .inr (ci, fs))) (hc : cl[ci]? = some (C, T, N)) (hk : k < N)
    (hin : ∀ w ∈ u_ws C T N, w ∈ ALL) (hT1 : (T k).1 = C) (hlink : Cond.fieldLink own i C (T k).2.1 (T k).2.2.1 ∈ ALL ∨ ∃ h, Cond.fieldLinkNest own i C (T k).2.1 (T k).2.2.1 h ∈ nws) {v : Value} (hv : fs[k]? = some v) {rest : List Value}
    (hdg : decode cc pc = .ok (.getfield i, 3)) (kk : W p l e R s m args below meth c H locs cells slots Q (F0 m (pc + 3) ls (v :: rest))) : W p l e R s m args below meth c H locs cells slots Q (F0 m pc ls (.ref a :: rest)) := by
  rcases hlink with hlk | ⟨h, hlk⟩
  · exact va_get (C := C) (T := T) hx hb hts hin hown hK hP q0 he hc k hk (hts _ hlk) (fun x h9 => by rw [← hT1]; exact h9) hv hdg kk
  · exact va_getN (C := C) (T := T) hx hb hts hin hown hK hP q0 he hc k hk (va_Nw.use rfl (hnw _ hlk)) (fun x h9 => by rw [← hT1]; exact h9) hv hdg kk
theorem pm_getE {ad : Nat → Nat} {a : Nat} {x : pm_C} (h : pm_at ph a = some x) : (pm_ws ad dA B ph)[a]? = some (B + a, pm_e ad dA x) := by
  rw [pm_ws_get, (pm_at_some h).2]
  rfl
theorem pm_adE {a : Nat} {x : pm_C} (h : pm_at ph a = some x) : pm_ad B ra a = B + a := pm_ad_lo (pm_at_some h).1
theorem pm_tysE (t : Nat) (h : Nat.ble t 4 = true) : ∃ ty, (pm_tys dA E)[t]? = some (dA t, ty) := by
  have h4 : t ≤ 4 := Nat.le_of_ble_eq_true h
  match t, h4 with
  | 0, _ => exact ⟨_, rfl⟩
  | 1, _ => exact ⟨_, rfl⟩
  | 2, _ => exact ⟨_, rfl⟩
  | 3, _ => exact ⟨_, rfl⟩
  | 4, _ => exact ⟨_, rfl⟩
theorem pm_iast (hx : p.tables.exec = Jvm.exec) (hb : c.code = cc) {tys : List (ClassId × FieldType)} (hK : va_K D cl tys s) {ws : va_W} (hP : va_P D cl ws H) (hD : va_D (fun q => B ≤ q) ws) (hS : va_S (fun q => B ≤ q) s.heap H locs) {a q0 t0 : Nat} {cA : ClassId} {n : Nat} {f : Nat → Int32} (ha : ws[q0]? = some (a, .inl (cA, n, .inl f))) (ht : tys[t0]? = some (cA, .int)) {i x : Int32} (hin : vp_in i n) {rest : List Value} (hdg : decode cc pc = .ok (.iastore, 1))
    (kk : ∀ (H1 : Heap) (locs1 : List Loc), H1.size = H.size → va_P D cl (ws.set q0 (a, .inl (cA, n, .inl (upd f i.toNatClampNeg x)))) H1 → va_S (fun q => B ≤ q) s.heap H1 locs1 → W p l e R s m args below meth c H1 locs1 cells slots Q (F0 m (pc + 1) ls rest)) : W p l e R s m args below meth c H locs cells slots Q (F0 m pc ls (.int x :: .int i :: .ref a :: rest)) := by
  refine W.iast hx hb (hP q0 _ ha) ((hK.2 t0 _ ht).1 n (fun j => .int (f j))) (fun q => by cases q) (by show ¬ (i < 0 ∨ (arrV _ _ _).slots.size ≤ _); rw [arrV_size]; exact hin) rfl rfl hdg fun H1 e z oq => ?_
  refine kk H1 _ z (hP.set hD ha ?_ oq) (hS.put z oq (hD.2 q0 _ ha))
  show H1[a]? = some (vp_cell _ _)
  rw [e, vp_cell_i, vp_cell_i, arrV_store]
  congr 2
  funext q
  by_cases hq : q = i.toNatClampNeg
  · subst hq; simp [updV, upd]
  · simp [updV, upd, hq]
theorem pm_zast (hx : p.tables.exec = Jvm.exec) (hb : c.code = cc) {tys : List (ClassId × FieldType)} (hK : va_K D cl tys s) {ws : va_W} (hP : va_P D cl ws H) (hD : va_D (fun q => B ≤ q) ws) (hS : va_S (fun q => B ≤ q) s.heap H locs) {a q0 t0 : Nat} {cA : ClassId} {n : Nat} {f : Nat → Int32} (ha : ws[q0]? = some (a, .inl (cA, n, .inl f))) (ht : tys[t0]? = some (cA, .boolean)) {i x : Int32} (hin : vp_in i n) {rest : List Value} (hdg : decode cc pc = .ok (.bastore, 1))
    (kk : ∀ (H1 : Heap) (locs1 : List Loc), H1.size = H.size → va_P D cl (ws.set q0 (a, .inl (cA, n, .inl (upd f i.toNatClampNeg (x &&& 1))))) H1 → va_S (fun q => B ≤ q) s.heap H1 locs1 → W p l e R s m args below meth c H1 locs1 cells slots Q (F0 m (pc + 1) ls rest)) : W p l e R s m args below meth c H locs cells slots Q (F0 m pc ls (.int x :: .int i :: .ref a :: rest)) := by
  refine W.zast hx hb (hP q0 _ ha) ((hK.2 t0 _ ht).1 n (fun j => .int (f j))) (fun q => by cases q) (by show ¬ (i < 0 ∨ (arrV _ _ _).slots.size ≤ _); rw [arrV_size]; exact hin) rfl rfl hdg fun H1 e z oq => ?_
  refine kk H1 _ z (hP.set hD ha ?_ oq) (hS.put z oq (hD.2 q0 _ ha))
  show H1[a]? = some (vp_cell _ _)
  rw [e, show narrow .boolean (.int x) = .int (x &&& 1) from rfl, vp_cell_i, vp_cell_i, arrV_store]
  congr 2
  funext q
  by_cases hq : q = i.toNatClampNeg
  · subst hq; simp [updV, upd]
  · simp [updV, upd, hq]
theorem pm_last (hx : p.tables.exec = Jvm.exec) (hb : c.code = cc) {tys : List (ClassId × FieldType)} (hK : va_K D cl tys s) {ws : va_W} (hP : va_P D cl ws H) (hD : va_D (fun q => B ≤ q) ws) (hS : va_S (fun q => B ≤ q) s.heap H locs) {a q0 t0 : Nat} {cA : ClassId} {n : Nat} {f : Nat → Int64} (ha : ws[q0]? = some (a, .inl (cA, n, .inr (.inl f)))) (ht : tys[t0]? = some (cA, .long)) {i : Int32} {x : Int64} (hin : vp_in i n) {rest : List Value} (hdg : decode cc pc = .ok (.lastore, 1))
    (kk : ∀ (H1 : Heap) (locs1 : List Loc), H1.size = H.size → va_P D cl (ws.set q0 (a, .inl (cA, n, .inr (.inl (vp_updL f i.toNatClampNeg x))))) H1 → va_S (fun q => B ≤ q) s.heap H1 locs1 → W p l e R s m args below meth c H1 locs1 cells slots Q (F0 m (pc + 1) ls rest)) : W p l e R s m args below meth c H locs cells slots Q (F0 m pc ls (.long x :: .int i :: .ref a :: rest)) := by
  refine W.last hx hb (hP q0 _ ha) ((hK.2 t0 _ ht).1 n (fun j => .long (f j))) (fun q => by cases q) (by show ¬ (i < 0 ∨ (arrV _ _ _).slots.size ≤ _); rw [arrV_size]; exact hin) rfl rfl hdg fun H1 e z oq => ?_
  refine kk H1 _ z (hP.set hD ha ?_ oq) (hS.put z oq (hD.2 q0 _ ha))
  show H1[a]? = some (vp_cell _ _)
  rw [e, vp_cell_l, vp_cell_l, arrV_store]
  congr 2
  funext q
  by_cases hq : q = i.toNatClampNeg
  · subst hq; simp [updV, vp_updL]
  · simp [updV, vp_updL, hq]
theorem pm_aast (hx : p.tables.exec = Jvm.exec) (hb : c.code = cc) {tys : List (ClassId × FieldType)} (hK : va_K D cl tys s) {ws : va_W} (hP : va_P D cl ws H) (hD : va_D (fun q => B ≤ q) ws) (hS : va_S (fun q => B ≤ q) s.heap H locs) {a q0 t0 qk ci : Nat} {cA : ClassId} {r : vw_C} {n v : Nat} {vs : List Value} {f : Nat → Option Nat} (ha : ws[q0]? = some (a, .inl (cA, n, .inr (.inr (.inr (.inr f)))))) (ht : tys[t0]? = some (cA, .object r.1)) (hv : ws[qk]? = some (v, .inr (ci, vs))) (hc : cl[ci]? = some r) {i : Int32} (hin : vp_in i n) {rest : List Value} (hdg : decode cc pc = .ok (.aastore, 1))
    (kk : ∀ (H1 : Heap) (locs1 : List Loc), H1.size = H.size → va_P D cl (ws.set q0 (a, .inl (cA, n, .inr (.inr (.inr (.inr (va_up f i.toNatClampNeg (some v)))))))) H1 → va_S (fun q => B ≤ q) s.heap H1 locs1 → W p l e R s m args below meth c H1 locs1 cells slots Q (F0 m (pc + 1) ls rest)) : W p l e R s m args below meth c H locs cells slots Q (F0 m pc ls (.ref v :: .int i :: .ref a :: rest)) := by
  have hlt : i.toNatClampNeg < n := Nat.not_le.mp fun q => hin (Or.inr q)
  have h0 : ¬ i < 0 := fun q => hin (Or.inl q)
  obtain ⟨r', hr', cellV, g1, g2, g3, -⟩ := hP qk _ hv
  have hcls := (hK.1 ci r hc).2
  obtain ⟨kA, comp, k1, k2, k3, -⟩ := (hK.2 t0 _ ht).2
  have hcomp : comp = D.1 ci := Option.some.inj (k3.symm.trans hcls.1)
  subst hcomp
  obtain ⟨kC, hkC, -⟩ := id hcls.2
  refine W.aast hx hb (hP q0 _ ha) (fun q h => by cases h) (fun h => by cases h) k1 k2 rfl hkC ⟨h0, by show _ < (arrV _ _ _).slots.size; rw [arrV_size]; exact hlt⟩ g1 (fun q h => by rw [g3] at h; cases h) (by rw [g2]; exact hkC) (by rw [g2]; exact va_assign hcls) rfl rfl hdg fun H1 e z oq => ?_
  refine kk H1 _ z (hP.set hD ha ?_ oq) (hS.put z oq (hD.2 q0 _ ha))
  show H1[a]? = some (vp_cell _ _)
  rw [e, vp_cell_q, vp_cell_q, arrV_store]
  congr 2
  funext q
  by_cases hq : q = i.toNatClampNeg
  · subst hq; simp [updV, va_up, va_rf]
  · simp [updV, va_up, hq]
/-- a cell more, the next one -/
theorem pm_grow {ws : va_W} {H1 : Heap} {w : va_E} (hP : va_P D cl ws H) (z1 : H1.size = H.size + 1) (o1 : ∀ q, q < H.size → H1[q]? = H[q]?) (hw : va_at D cl (H.size, w) H1) : va_P D cl (ws ++ [(H.size, w)]) H1 :=
  (hP.kept (fun k x hx => o1 x.1 ((hP k x hx).lt))).app (fun k x hx => by
    have hz : k < 1 := (List.getElem?_eq_some_iff.mp hx).1
    rw [show k = 0 by omega] at hx
    cases hx
    exact hw)
theorem pm_growS {H1 : Heap} (hS : va_S (fun q => B ≤ q) s.heap H locs) (z1 : H1.size = H.size + 1) (o1 : ∀ q, q < H.size → H1[q]? = H[q]?) : va_S (fun q => B ≤ q) s.heap H1 locs :=
  ⟨Nat.le_trans hS.1 (by omega), fun x h1 h2 => (o1 x (Nat.lt_of_lt_of_le h1 hS.1)).trans (hS.2.1 x h1 h2), hS.2.2⟩
theorem pm_five {n n' : Nat} {a a' : List Value} {h h' : pm_H} {c c' d d' : Nat} (q : some (n, a, h, c, d) = some (n', a', h', c', d')) : n = n' ∧ a = a' ∧ h = h' ∧ c = c' ∧ d = d' := by
  cases q
  exact ⟨rfl, rfl, rfl, rfl, rfl⟩
set_option maxHeartbeats 8000000 in
theorem pm_mem_ok {n c1 s1 : Nat} (hx : p.tables.exec = Jvm.exec) (hb : c.code = cc) (hd : decode cc pc = .ok (ins, pm_len ins aux)) (hml : ls.size = c.maxLocals) (hown : s.vm.findClass own = some m.cls) (hts : ∀ w ∈ ALL, w.before args s = true)
    (hlk : ∀ i kd a b v, pm_lnk K ow i = some (kd, a, b, v) → pm_lk K M cl ALL nws zs rs aos rof own i kd a b v) (hck : pm_ck K cl ALL) (hbs : pm_base ALL) (hfin : ∀ (i ci k : Nat) (v : Value), ins = .putfield i → pm_lnk K ow i = some (6, ci, k, v) → ∀ (C : String) (T : u_T) (N : Nat), cl[ci]? = some (C, T, N) → (T k).2.2.2 = true → meth.name = "<init>" ∧ C = own)
    (hE : ∀ r, cl[pm_eci K]? = some r → r.1 = E ∧ E ∈ aos) (hK : va_K D cl (pm_tys dA E) s) (hRO : pm_RO zs rs aos nws K rof (pm_ad B ra) (fun q => B ≤ q) s s.heap) (hB : B ≤ s.heap.size)
    (hP : va_P D cl (pm_ws (pm_ad B ra) dA B ph) H) (hS : va_S (fun q => B ≤ q) s.heap H locs) (hz : al = true → H.size = B + ph.length) (hfr : 1 ≤ R.frames) (hlo : 8 + (nativeFrameWords "java/lang/System" "arraycopy" 5 + 13) ≤ R.locals) (hR : cells + c1 ≤ R.cells ∧ slots + s1 ≤ R.slots)
    (h : pm_mem K al ow ins st ph = some (n, st', ph', c1, s1))
    (kk : ∀ (H1 : Heap) (locs1 : List Loc), va_P D cl (pm_ws (pm_ad B ra) dA B ph') H1 → va_S (fun q => B ≤ q) s.heap H1 locs1 → (al = true → H1.size = B + ph'.length) → W p l e R s m args below meth c H1 locs1 (cells + c1) (slots + s1) Q (F0 m (pc + n) ls (st'.map (pm_u (pm_ad B ra))))) :
    W p l e R s m args below meth c H locs cells slots Q (F0 m pc ls (st.map (pm_u (pm_ad B ra)))) := by
  have hnw : ∀ w ∈ nws, va_Nw w s := hRO.2.2.2.2.2
  have hD : va_D (fun q => B ≤ q) (pm_ws (pm_ad B ra) dA B ph) := pm_ws_D _ _ _ _
  have hA : B ≤ H.size := Nat.le_trans hB hS.1
  unfold pm_mem at h
  split at h
  · next i a r =>
    split at h
    · next ci k w hw =>
      split at h
      · next cj fs hph =>
        obtain ⟨C, T, N, hc, hk, hlink⟩ := (hlk _ _ _ _ _ hw).1 rfl
        cases hq : Nat.beq ci cj with
        | false => rw [hq] at h; cases h
        | true =>
          rw [hq] at h
          simp only [cond_true] at h
          have hcj : ci = cj := Nat.eq_of_beq_eq_true hq
          subst hcj
          split at h
          · next v hv =>
            obtain ⟨rfl, rfl, rfl, rfl, rfl⟩ := pm_five h
            show W p l e R s m args below meth c H locs cells slots Q (F0 m pc ls (.ref (pm_ad B ra a) :: r.map _))
            rw [pm_adE hph]
            obtain ⟨g1, g2, g3, g4, g5, g6, g7⟩ := hck _ _ _ _ hc
            exact pm_get hx hb hown hts hnw hK hP (pm_getE hph) hc hk g1 (g7 _ hk) (Or.inl hlink) (v := pm_u (pm_ad B ra) v) (by rw [List.getElem?_map, hv]; rfl) hd (kk H locs hP hS hz)
          · cases h
      · cases h
    · next j w1 w2 hw =>
      cases hq : Nat.blt a 1048576 with
      | true => rw [hq] at h; cases h
      | false =>
        rw [hq] at h
        simp only [cond_false] at h
        split at h
        · next v hv =>
          obtain ⟨rfl, rfl, rfl, rfl, rfl⟩ := pm_five h
          exact vk_getf hx hb (hRO.2.2.2.1 a _ v hq hv).2 hS hown (hts _ ((hlk _ _ _ _ _ hw).2.1 rfl)) (fun _ h9 => h9) hd (kk H locs hP hS hz)
        · cases h
    · cases h
  · next i v a r =>
    split at h
    · next ci k w hw =>
      split at h
      · next cj fs hph =>
        obtain ⟨C, T, N, hc, hk, hlink⟩ := (hlk _ _ _ _ _ hw).1 rfl
        obtain ⟨hq, h2⟩ := pm_bif h
        obtain ⟨rfl, rfl, rfl, rfl, rfl⟩ := pm_five (congrArg some h2)
        obtain ⟨h3, h4⟩ := pm_and hq
        obtain ⟨h5, h6⟩ := pm_and h4
        have hcj : ci = cj := Nat.eq_of_beq_eq_true h3
        subst hcj
        obtain ⟨n1, n2⟩ := pm_fit_ok (ad := pm_ad B ra) h5
        show W p l e R s m args below meth c H locs cells slots Q (F0 m pc ls (pm_u (pm_ad B ra) v :: .ref (pm_ad B ra a) :: r.map _))
        rw [pm_adE hph]
        obtain ⟨g1, g2, g3, g4, g5, g6, g7⟩ := hck _ _ _ _ hc
        refine pm_put hx hb hown hts hnw hK hP hD hS (pm_getE hph) hc hk (pm_fty K ci) g1 g2 g3 (g7 _ hk) (Or.inl hlink) (fun hf => ⟨(hfin i ci k w rfl hw C T N hc hf).1, (hfin i ci k w rfl hw C T N hc hf).2, hlink⟩) (v := pm_u (pm_ad B ra) v) n1 n2 (by rw [List.length_map]; exact Nat.le_of_ble_eq_true h6) hd (fun H1 locs1 z hP1 hS1 => kk H1 locs1 ?_ hS1 (fun q => by rw [z, List.length_set]; exact hz q))
        rw [pm_ws_set]
        show va_P D cl ((pm_ws (pm_ad B ra) dA B ph).set a (B + a, .inr (ci, (fs.set k v).map (pm_u (pm_ad B ra))))) H1
        rw [List.map_set]
        exact hP1
      · cases h
    · cases h
  · next a r =>
    split at h
    · next t l9 hph =>
      obtain ⟨hq, h2⟩ := pm_bif h
      obtain ⟨rfl, rfl, rfl, rfl, rfl⟩ := pm_five (congrArg some h2)
      show W p l e R s m args below meth c H locs cells slots Q (F0 m pc ls (.ref (pm_ad B ra a) :: r.map _))
      rw [pm_adE hph]
      obtain ⟨ty, hty⟩ := pm_tysE (dA := dA) (E := E) t hq
      exact va_alen hx hb hK hP a t (pm_getE hph) hty rfl hd (kk H locs hP hS hz)
    · next t l9 hph =>
      obtain ⟨hq, h2⟩ := pm_bif h
      obtain ⟨rfl, rfl, rfl, rfl, rfl⟩ := pm_five (congrArg some h2)
      show W p l e R s m args below meth c H locs cells slots Q (F0 m pc ls (.ref (pm_ad B ra a) :: r.map _))
      rw [pm_adE hph]
      obtain ⟨ty, hty⟩ := pm_tysE (dA := dA) (E := E) t hq
      exact va_alen hx hb hK hP a t (pm_getE hph) hty rfl hd (kk H locs hP hS hz)
    · next t l9 hph =>
      obtain ⟨hq, h2⟩ := pm_bif h
      obtain ⟨rfl, rfl, rfl, rfl, rfl⟩ := pm_five (congrArg some h2)
      show W p l e R s m args below meth c H locs cells slots Q (F0 m pc ls (.ref (pm_ad B ra a) :: r.map _))
      rw [pm_adE hph]
      obtain ⟨ty, hty⟩ := pm_tysE (dA := dA) (E := E) t hq
      exact va_alen hx hb hK hP a t (pm_getE hph) hty rfl hd (kk H locs hP hS hz)
    · cases h
    · next hph =>
      split at h
      · next t n9 f hf =>
        obtain ⟨rfl, rfl, rfl, rfl, rfl⟩ := pm_five h
        obtain ⟨ty, -, hT⟩ := hRO.2.2.1 a t n9 f hf
        exact va_tlen hx hb hT hS rfl hd (kk H locs hP hS hz)
      · cases h
  · next i a r =>
    split at h
    · next l9 hph =>
      split at h
      · next x hx9 =>
        obtain ⟨rfl, rfl, rfl, rfl, rfl⟩ := pm_five h
        show W p l e R s m args below meth c H locs cells slots Q (F0 m pc ls (.int i :: .ref (pm_ad B ra a) :: r.map _))
        rw [pm_adE hph]
        refine va_iald hx hb hK hP a 0 (pm_getE hph) rfl (pm_ix_ok hx9).1 hd ?_
        rw [pm_ixD _ hx9]
        exact kk H locs hP hS hz
      · cases h
    · cases h
    · next hph =>
      split at h
      · next n9 f hf =>
        obtain ⟨hq, h2⟩ := pm_bif h
        obtain ⟨rfl, rfl, rfl, rfl, rfl⟩ := pm_five (congrArg some h2)
        obtain ⟨ty, ht, hT⟩ := hRO.2.2.1 a 0 n9 f hf
        rcases ht with ⟨-, rfl⟩ | ⟨ht, -⟩
        · exact va_ti hx hb hT hS (pm_inb_in hq) rfl hd (kk H locs hP hS hz)
        · cases ht
      · cases h
  · next i a r =>
    split at h
    · next l9 hph =>
      split at h
      · next x hx9 =>
        obtain ⟨rfl, rfl, rfl, rfl, rfl⟩ := pm_five h
        show W p l e R s m args below meth c H locs cells slots Q (F0 m pc ls (.int i :: .ref (pm_ad B ra a) :: r.map _))
        rw [pm_adE hph]
        refine va_zald hx hb hK hP a 1 (pm_getE hph) rfl (pm_ix_ok hx9).1 hd ?_
        rw [pm_ixD _ hx9]
        exact kk H locs hP hS hz
      · cases h
    · cases h
    · next hph =>
      split at h
      · next n9 f hf =>
        obtain ⟨hq, h2⟩ := pm_bif h
        obtain ⟨rfl, rfl, rfl, rfl, rfl⟩ := pm_five (congrArg some h2)
        obtain ⟨ty, ht, hT⟩ := hRO.2.2.1 a 3 n9 f hf
        rcases ht with ⟨ht, -⟩ | ⟨-, rfl⟩
        · cases ht
        · exact va_tb hx hb hT hS (pm_inb_in hq) rfl hd (kk H locs hP hS hz)
      · cases h
  · next i a r =>
    split at h
    · next l9 hph =>
      split at h
      · next x hx9 =>
        obtain ⟨rfl, rfl, rfl, rfl, rfl⟩ := pm_five h
        show W p l e R s m args below meth c H locs cells slots Q (F0 m pc ls (.int i :: .ref (pm_ad B ra a) :: r.map _))
        rw [pm_adE hph]
        refine va_lald hx hb hK hP a 2 (pm_getE hph) rfl (pm_ix_ok hx9).1 hd ?_
        rw [pm_ixD _ hx9]
        exact kk H locs hP hS hz
      · cases h
    · cases h
  · next i a r =>
    split at h
    · next l9 hph =>
      split at h
      · next x hx9 =>
        obtain ⟨rfl, rfl, rfl, rfl, rfl⟩ := pm_five h
        show W p l e R s m args below meth c H locs cells slots Q (F0 m pc ls (.int i :: .ref (pm_ad B ra a) :: r.map _))
        rw [pm_adE hph]
        refine va_aldq hx hb hK hP a 4 (C := E) (pm_getE hph) rfl (pm_ix_ok hx9).1 hd ?_
        have er : va_rf ((l9.getD i.toNatClampNeg none).map (pm_ad B ra)) = pm_u (pm_ad B ra) (pm_rv x) := by rw [pm_ixD _ hx9]; cases x <;> rfl
        show W p l e R s m args below meth c H locs cells slots Q (F0 m (pc + 1) ls (va_rf ((l9.getD i.toNatClampNeg none).map (pm_ad B ra)) :: r.map _))
        rw [er]
        exact kk H locs hP hS hz
      · cases h
    · cases h
  · next x i a r =>
    split at h
    · next l9 hph =>
      split at h
      · next l8 hl8 =>
        obtain ⟨rfl, rfl, rfl, rfl, rfl⟩ := pm_five h
        obtain ⟨u1, rfl, u3⟩ := pm_up_ok hl8
        show W p l e R s m args below meth c H locs cells slots Q (F0 m pc ls (.int x :: .int i :: .ref (pm_ad B ra a) :: r.map _))
        rw [pm_adE hph]
        refine pm_iast hx hb hK hP hD hS (t0 := 0) (pm_getE hph) rfl u1 hd (fun H1 locs1 z hP1 hS1 => kk H1 locs1 ?_ hS1 (fun q => by rw [z, List.length_set]; exact hz q))
        rw [pm_ws_set]
        have e9 : pm_e (pm_ad B ra) dA (.inl (0, .inl (l9.set i.toNatClampNeg (x)))) = .inl (dA 0, l9.length, .inl (upd (fun j => l9.getD j 0) i.toNatClampNeg (x))) := by
          unfold pm_e
          simp only [List.length_set]
          rw [pm_setD _ _ _ _ u3]
          rfl
        rw [e9]
        exact hP1
      · cases h
    · cases h
  · next x i a r =>
    split at h
    · next l9 hph =>
      split at h
      · next l8 hl8 =>
        obtain ⟨rfl, rfl, rfl, rfl, rfl⟩ := pm_five h
        obtain ⟨u1, rfl, u3⟩ := pm_up_ok hl8
        show W p l e R s m args below meth c H locs cells slots Q (F0 m pc ls (.int x :: .int i :: .ref (pm_ad B ra a) :: r.map _))
        rw [pm_adE hph]
        refine pm_zast hx hb hK hP hD hS (t0 := 1) (pm_getE hph) rfl u1 hd (fun H1 locs1 z hP1 hS1 => kk H1 locs1 ?_ hS1 (fun q => by rw [z, List.length_set]; exact hz q))
        rw [pm_ws_set]
        have e9 : pm_e (pm_ad B ra) dA (.inl (1, .inl (l9.set i.toNatClampNeg (x &&& 1)))) = .inl (dA 1, l9.length, .inl (upd (fun j => l9.getD j 0) i.toNatClampNeg (x &&& 1))) := by
          unfold pm_e
          simp only [List.length_set]
          rw [pm_setD _ _ _ _ u3]
          rfl
        rw [e9]
        exact hP1
      · cases h
    · cases h
  · next x i a r =>
    split at h
    · next l9 hph =>
      split at h
      · next l8 hl8 =>
        obtain ⟨rfl, rfl, rfl, rfl, rfl⟩ := pm_five h
        obtain ⟨u1, rfl, u3⟩ := pm_up_ok hl8
        show W p l e R s m args below meth c H locs cells slots Q (F0 m pc ls (.long x :: .int i :: .ref (pm_ad B ra a) :: r.map _))
        rw [pm_adE hph]
        refine pm_last hx hb hK hP hD hS (t0 := 2) (pm_getE hph) rfl u1 hd (fun H1 locs1 z hP1 hS1 => kk H1 locs1 ?_ hS1 (fun q => by rw [z, List.length_set]; exact hz q))
        rw [pm_ws_set]
        have e9 : pm_e (pm_ad B ra) dA (.inl (2, .inr (.inl (l9.set i.toNatClampNeg (x))))) = .inl (dA 2, l9.length, .inr (.inl (vp_updL (fun j => l9.getD j 0) i.toNatClampNeg x))) := by
          unfold pm_e
          simp only [List.length_set]
          rw [pm_setD _ _ _ _ u3]
          rfl
        rw [e9]
        exact hP1
      · cases h
    · cases h
  · next v i a r =>
    split at h
    · next l9 hph =>
      split at h
      · next ci fs hpv =>
        split at h
        · next l8 hl8 =>
          obtain ⟨hq, h2⟩ := pm_bif h
          obtain ⟨rfl, rfl, rfl, rfl, rfl⟩ := pm_five (congrArg some h2)
          obtain ⟨u1, rfl, u3⟩ := pm_up_ok hl8
          have hci : ci = pm_eci K := Nat.eq_of_beq_eq_true hq
          obtain ⟨rr, hrr, -⟩ := hP v _ (pm_getE hpv)
          have hrE : rr.1 = E := (hE rr (by rw [← hci]; exact hrr)).1
          show W p l e R s m args below meth c H locs cells slots Q (F0 m pc ls (.ref (pm_ad B ra v) :: .int i :: .ref (pm_ad B ra a) :: r.map _))
          rw [pm_adE hph, pm_adE hpv]
          refine pm_aast hx hb hK hP hD hS (t0 := 4) (r := rr) (pm_getE hph) (by rw [hrE]; rfl) (pm_getE hpv) hrr u1 hd (fun H1 locs1 z hP1 hS1 => kk H1 locs1 ?_ hS1 (fun q => by rw [z, List.length_set]; exact hz q))
          rw [pm_ws_set]
          have ef : (fun j => ((l9.set i.toNatClampNeg (some v)).getD j none).map (pm_ad B ra)) = va_up (fun j => (l9.getD j none).map (pm_ad B ra)) i.toNatClampNeg (some (B + v)) := by
            have e8 := pm_setD l9 i.toNatClampNeg (some v) none u3
            funext j
            have e7 : (l9.set i.toNatClampNeg (some v)).getD j none = if j = i.toNatClampNeg then some v else l9.getD j none := congrFun e8 j
            rw [e7]
            by_cases hj : j = i.toNatClampNeg
            · simp [va_up, hj, pm_adE (B := B) (ra := ra) hpv]
            · simp [va_up, hj]
          have e9 : pm_e (pm_ad B ra) dA (.inl (4, .inr (.inr (l9.set i.toNatClampNeg (some v))))) = .inl (dA 4, l9.length, .inr (.inr (.inr (.inr (va_up (fun j => (l9.getD j none).map (pm_ad B ra)) i.toNatClampNeg (some (B + v))))))) := by
            unfold pm_e
            simp only [List.length_set]
            rw [ef]
          rw [e9]
          exact hP1
        · cases h
      · cases h
    · cases h
  · next i =>
    split at h
    · next ci n9 w hw =>
      obtain ⟨hq, h2⟩ := pm_bif h
      obtain ⟨rfl, rfl, rfl, rfl, rfl⟩ := pm_five (congrArg some h2)
      obtain ⟨h3, h4⟩ := pm_and hq
      obtain ⟨C, T, hc, hcl⟩ := (hlk _ _ _ _ _ hw).2.2.2.1 rfl
      obtain ⟨g1, g2, g3, g4, g5, g6, g7⟩ := hck _ _ _ _ hc
      have hKn := hK.1 ci _ hc
      have hlen : ph.length < 1048576 := Nat.lt_of_lt_of_le (Nat.le_of_ble_eq_true h4 : ph.length < 1048575) (by omega)
      refine W.newcK hx hb hown (hts _ hcl) (hts _ g5) (hts _ g6) rfl hd hR.1 hR.2 hKn.2.1 (hz h3) fun H1 kC hkC e1 z1 o1 => ?_
      rw [← hz h3] at e1 z1 o1
      have key := kk H1 locs ?_ (pm_growS hS z1 o1) (fun _ => by rw [z1, hz h3, List.length_append]; rfl)
      · show W p l e R s m args below meth c H1 locs (cells + 1) (slots + n9) Q (F0 m (pc + 3) ls (.ref (B + ph.length) :: st.map _))
        have key2 : W p l e R s m args below meth c H1 locs (cells + 1) (slots + n9) Q (F0 m (pc + 3) ls (.ref (pm_ad B ra ph.length) :: st.map (pm_u (pm_ad B ra)))) := key
        rw [pm_ad_lo hlen] at key2
        exact key2
      · rw [pm_ws_app, ← hz h3]
        exact pm_grow hP z1 o1 ⟨_, hc, (u_born _ hts g1 hKn hkC e1 g2).to (g4 (pm_ad B ra))⟩
    · cases h
  · next t x r =>
    cases hneg : decide (x < 0) with
    | true => rw [hneg] at h; cases h
    | false =>
      rw [hneg] at h
      simp only [cond_false] at h
      have hnn : ¬ x < 0 := of_decide_eq_false hneg
      split at h
      · next cel hcel =>
        obtain ⟨hq, h2⟩ := pm_bif h
        obtain ⟨rfl, rfl, rfl, rfl, rfl⟩ := pm_five (congrArg some h2)
        obtain ⟨h3, h4⟩ := pm_and hq
        obtain ⟨h5, h6⟩ := pm_and h4
        have hlen : ph.length < 1048576 := Nat.lt_of_lt_of_le (Nat.le_of_ble_eq_true h5 : ph.length < 1048575) (by omega)
        have hbig : x.toNatClampNeg ≤ 1000000 := Nat.le_of_ble_eq_true h6
        have fin : ∀ (H1 : Heap) (w : va_E), pm_e (pm_ad B ra) dA cel = w → va_at D cl (H.size, w) H1 → H1.size = H.size + 1 → (∀ q, q < H.size → H1[q]? = H[q]?) → W p l e R s m args below meth c H1 locs (cells + 1) (slots + x.toNatClampNeg) Q (F0 m (pc + 2) ls (.ref H.size :: r.map (pm_u (pm_ad B ra)))) := by
          intro H1 w ew hw z1 o1
          have key : W p l e R s m args below meth c H1 locs (cells + 1) (slots + x.toNatClampNeg) Q (F0 m (pc + 2) ls (.ref (pm_ad B ra ph.length) :: r.map (pm_u (pm_ad B ra)))) := kk H1 locs (by rw [pm_ws_app, ← hz h3, ew]; exact pm_grow hP z1 o1 hw) (pm_growS hS z1 o1) (fun _ => by rw [z1, hz h3, List.length_append]; rfl)
          rw [pm_ad_lo hlen, ← hz h3] at key
          exact key
        unfold pm_blank at hcel
        split at hcel
        · cases hcel
          refine va_newaK (atype := .int) hx hb (hts _ hbs.2.2.2.2.2.1) rfl hd rfl hnn rfl (by show x.toNatClampNeg * 4 ≤ _; omega) hR.1 hR.2 rfl fun H1 cA e1 z1 o1 hAr hNm => fin H1 _ rfl ?_ z1 o1
          have hcA : dA 0 = cA := Option.some.inj ((hK.2 0 _ rfl).2.symm.trans hNm)
          subst hcA
          unfold pm_e
          simp only [List.length_replicate]
          rw [pm_repD]
          exact e1
        · cases hcel
          refine va_newaK (atype := .boolean) hx hb (hts _ hbs.2.2.2.2.2.2.1) rfl hd rfl hnn rfl (by show x.toNatClampNeg * 1 ≤ _; omega) hR.1 hR.2 rfl fun H1 cA e1 z1 o1 hAr hNm => fin H1 _ rfl ?_ z1 o1
          have hcA : dA 1 = cA := Option.some.inj ((hK.2 1 _ rfl).2.symm.trans hNm)
          subst hcA
          unfold pm_e
          simp only [List.length_replicate]
          rw [pm_repD]
          exact e1
        · cases hcel
          refine va_newaK (atype := .long) hx hb (hts _ hbs.2.2.2.2.2.2.2.1) rfl hd rfl hnn rfl (by show x.toNatClampNeg * 8 ≤ _; omega) hR.1 hR.2 rfl fun H1 cA e1 z1 o1 hAr hNm => fin H1 _ rfl ?_ z1 o1
          have hcA : dA 2 = cA := Option.some.inj ((hK.2 2 _ rfl).2.symm.trans hNm)
          subst hcA
          unfold pm_e
          simp only [List.length_replicate]
          rw [pm_repD]
          exact e1
        · cases hcel
      · cases h
  · next i x r =>
    cases hneg : decide (x < 0) with
    | true => rw [hneg] at h; cases h
    | false =>
      rw [hneg] at h
      simp only [cond_false] at h
      have hnn : ¬ x < 0 := of_decide_eq_false hneg
      split at h
      · next ci w2 w3 hw =>
        obtain ⟨hq, h2⟩ := pm_bif h
        obtain ⟨rfl, rfl, rfl, rfl, rfl⟩ := pm_five (congrArg some h2)
        obtain ⟨h37, h4⟩ := pm_and hq
        obtain ⟨h3, h38⟩ := pm_and h37
        have hci : ci = pm_eci K := Nat.eq_of_beq_eq_true h38
        obtain ⟨h5, h6⟩ := pm_and h4
        have hlen : ph.length < 1048576 := Nat.lt_of_lt_of_le (Nat.le_of_ble_eq_true h5 : ph.length < 1048575) (by omega)
        have hbig : x.toNatClampNeg ≤ 1000000 := Nat.le_of_ble_eq_true h6
        obtain ⟨C, T, hc, hcl⟩ := (hlk _ _ _ _ _ hw).2.2.2.1 rfl
        rw [hci] at hc
        obtain ⟨hCE, hao⟩ := hE _ hc
        have hCE2 : C = E := hCE
        subst hCE2
        refine W.anew hx hb hown (hts _ hcl) (va_AO.use (hRO.2.2.2.2.1 _ hao)) rfl hd rfl hnn (by omega) hR.1 hR.2 fun cA kA comp f1 f2 f3 f4 => ?_
        have hcA : dA 4 = cA := by
          obtain ⟨_, _, _, _, _, hfc⟩ := (hK.2 4 _ rfl).2
          exact Option.some.inj (hfc.symm.trans f1)
        subst hcA
        generalize hH1 : H.push ({ cls := dA 4, slots := Array.replicate x.toNatClampNeg .null, vm := .none } : Cell) = H1
        have z1 : H1.size = H.size + 1 := by rw [← hH1, Array.size_push]
        have e1 : H1[H.size]? = some (arrV (dA 4) x.toNatClampNeg (fun _ => .null)) := by rw [← hH1, Array.getElem?_push_size, ← arrV_new]
        have o1 : ∀ q : Nat, q < H.size → H1[q]? = H[q]? := fun q hq => by rw [← hH1, Array.getElem?_push, if_neg (Nat.ne_of_lt hq)]
        have key : W p l e R s m args below meth c H1 locs (cells + 1) (slots + x.toNatClampNeg) Q (F0 m (pc + 3) ls (.ref (pm_ad B ra ph.length) :: r.map (pm_u (pm_ad B ra)))) := kk H1 locs (by rw [pm_ws_app, ← hz h3]; exact pm_grow hP z1 o1 (by unfold pm_e; simp only [List.length_replicate]; rw [show (fun j => ((List.replicate x.toNatClampNeg (none : Option Nat)).getD j none).map (pm_ad B ra)) = fun _ => none from funext fun j => by rw [congrFun (pm_repD x.toNatClampNeg (none : Option Nat)) j]; rfl]; exact e1)) (pm_growS hS z1 o1) (fun _ => by rw [z1, hz h3, List.length_append]; rfl)
        rw [pm_ad_lo hlen, ← hz h3] at key
        exact key
      · cases h
  · next i a r =>
    split at h
    · next w1 w2 w3 hw =>
      obtain ⟨hq, h2⟩ := pm_bif h
      obtain ⟨rfl, rfl, rfl, rfl, rfl⟩ := pm_five (congrArg some h2)
      have h8 : (r.map fun v => v.category).sum ≤ 8 := Nat.le_of_ble_eq_true hq
      refine W.objInit hx hb hown (hts _ ((hlk _ _ _ _ _ hw).2.2.2.2.2.2.2.2.1 rfl)) (hts _ hbs.1) (hts _ hbs.2.1) rfl hml rfl hd hfr ?_ (kk H locs hP hS hz)
      show 2 * 0 + ((r.map (pm_u (pm_ad B ra))).map fun v => v.category).sum + 12 ≤ R.locals
      rw [pm_u_sum]
      omega
    · cases h
  · next s0 i =>
    split at h
    · next w1 w2 w3 hw =>
      split at h
      · next x dp b sp a r =>
        split at h
        · next f g hpa hpb =>
          obtain ⟨hq, h2⟩ := pm_bif h
          obtain ⟨rfl, rfl, rfl, rfl, rfl⟩ := pm_five (congrArg some h2)
          obtain ⟨h3, h4⟩ := pm_and hq
          obtain ⟨h5, h6⟩ := pm_and h4
          obtain ⟨h7, h8⟩ := pm_and h5
          obtain ⟨h9, h10⟩ := pm_and h8
          obtain ⟨h11, h12⟩ := pm_and h6
          obtain ⟨h13, h14⟩ := pm_and h11
          have hal : al = false := by cases al with
            | false => rfl
            | true => cases h3
          have nd : ∀ {P : Prop} {_ : Decidable P}, (!decide P) = true → ¬ P := fun {P} {_} q z => by rw [show decide P = true from decide_eq_true z] at q; cases q
          show W p l e R s m args below meth c H locs cells slots Q (F0 m pc ls (.int x :: .int dp :: .ref (pm_ad B ra b) :: .int sp :: .ref (pm_ad B ra a) :: r.map _))
          rw [pm_adE hpa, pm_adE hpb]
          refine va_copyi hx hb hml.symm hown (hts _ ((hlk _ _ _ _ _ hw).2.2.2.2.2.2.2.2.2.1 rfl)) (hts _ hbs.2.2.1) (hts _ hbs.2.2.2.1) (hts _ hbs.2.2.2.2.1) hK hP hD hS a b 0 0 (pm_getE hpa) (pm_getE hpb) rfl rfl rfl (nd h7) (nd h9) (nd h10) (Nat.le_of_ble_eq_true h13) (Nat.le_of_ble_eq_true h14) (fun _ _ => rfl) hfr ?_ hd (fun H1 locs1 hP1 _ hS1 => kk H1 locs1 ?_ hS1 (fun q => by rw [hal] at q; cases q))
          rotate_left
          · rw [pm_ws_set]
            have e9 : pm_e (pm_ad B ra) dA (.inl (0, .inl (pm_cpy f g sp.toNatClampNeg dp.toNatClampNeg x.toNatClampNeg))) = .inl (dA 0, g.length, .inl (va_cpy (fun j => f.getD j 0) (fun j => g.getD j 0) sp.toNatClampNeg dp.toNatClampNeg x.toNatClampNeg)) := by
              unfold pm_e
              simp only [pm_cpy_len (Nat.le_of_ble_eq_true h13) (Nat.le_of_ble_eq_true h14)]
              rw [pm_cpyD 0 (Nat.le_of_ble_eq_true h13) (Nat.le_of_ble_eq_true h14)]
            rw [e9]
            exact hP1
          rw [pm_u_sum]
          have h8 : (r.map fun v => v.category).sum ≤ 8 := Nat.le_of_ble_eq_true h12
          omega
        · cases h
      · cases h
    · next w1 w2 w3 hw =>
      split at h
      · next y x r =>
        obtain ⟨hq, h2⟩ := pm_bif h
        obtain ⟨rfl, rfl, rfl, rfl, rfl⟩ := pm_five (congrArg some h2)
        have h8 : (r.map fun v => v.category).sum ≤ 8 := Nat.le_of_ble_eq_true hq
        refine va_mmax hx hb hml.symm hown (hts _ ((hlk _ _ _ _ _ hw).2.2.2.2.2.2.2.2.2.2.2.2.2.2.1 rfl)) (hts _ hbs.2.2.2.2.2.2.2.2.2.1) (hts _ hbs.2.2.2.2.2.2.2.2.1) (hts _ hbs.2.2.2.2.2.2.2.2.2.2.2.2.1) hfr ?_ hR.1 hR.2 hd (kk H locs hP hS hz)
        rw [pm_u_sum]
        omega
      · cases h
    · next w1 w2 w3 hw =>
      split at h
      · next y x r =>
        obtain ⟨hq, h2⟩ := pm_bif h
        obtain ⟨rfl, rfl, rfl, rfl, rfl⟩ := pm_five (congrArg some h2)
        have h8 : (r.map fun v => v.category).sum ≤ 8 := Nat.le_of_ble_eq_true hq
        refine va_mmin hx hb hml.symm hown (hts _ ((hlk _ _ _ _ _ hw).2.2.2.2.2.2.2.2.2.2.2.2.2.2.2.1 rfl)) (hts _ hbs.2.2.2.2.2.2.2.2.2.2.1) (hts _ hbs.2.2.2.2.2.2.2.2.1) (hts _ hbs.2.2.2.2.2.2.2.2.2.2.2.2.2.1) hfr ?_ hR.1 hR.2 hd (kk H locs hP hS hz)
        rw [pm_u_sum]
        omega
      · cases h
    · next w1 w2 w3 hw =>
      split at h
      · next x r =>
        obtain ⟨hq, h2⟩ := pm_bif h
        obtain ⟨rfl, rfl, rfl, rfl, rfl⟩ := pm_five (congrArg some h2)
        have h8 : (r.map fun v => v.category).sum ≤ 8 := Nat.le_of_ble_eq_true hq
        refine va_mabs hx hb hml.symm hown (hts _ ((hlk _ _ _ _ _ hw).2.2.2.2.2.2.2.2.2.2.2.2.2.2.2.2 rfl)) (hts _ hbs.2.2.2.2.2.2.2.2.2.2.2.1) (hts _ hbs.2.2.2.2.2.2.2.2.1) (hts _ hbs.2.2.2.2.2.2.2.2.2.2.2.2.2.2) hfr ?_ hR.1 hR.2 hd (kk H locs hP hS hz)
        rw [pm_u_sum]
        omega
      · cases h
    · cases h
  · cases h
end PMM

/-! PM: soundness: a run of the pure machine is a contract -/
def pm_rm (d mc ms : Nat) : Room := { frames := d, cells := mc, slots := ms, locals := d * 128 }
def pm_wds (M : pm_M) (ALL : List Cond) (mj : Nat) : List Cond := Cond.code (M mj).1 (M mj).2.1 (M mj).2.2.1 (M mj).2.2.2 :: ALL
def pm_rk (kd : Nat) (ret : Option FieldType) : Prop := (kd = 0 → ret = none) ∧ (kd = 1 → ret = some .int) ∧ (kd = 2 → ret = some .boolean) ∧ (kd = 3 → ret = some .long) ∧ (kd = 4 → ∃ rt, ret = some rt ∧ ((∃ n, rt = .object n) ∨ ∃ t, rt = .array t)) ∧ (kd = 5 → ret = some .char) ∧ (kd = 6 → ret = some .byte)
/-- what a piece of group 8 is: the static, the call, and that the call runs alike with null and with a reference -/
def pm_m8 (K : pm_K) (bytes : ByteArray) (ALL : List Cond) (zs : List (String × String × String × Value)) (own : String) (ow pc : Nat) (ins : Instr) (aux : Nat) : Prop := ∃ (i : Nat) (C n d : String), ins = .getstatic i ∧ (C, n, d, Value.ref 1048579) ∈ zs ∧ Cond.fieldLink own i C n d ∈ ALL ∧ decode bytes (pc + 3) = .ok (.invokestatic aux, 3) ∧
  ∀ (al : Bool) (D : Nat) (x y : Int32) (st : List Value) (ph : pm_H) (j : Nat) (as r0 : List Value), ¬ y < 0 → y < x → pm_inv K ow (.invokestatic aux) (.null :: .int x :: .int y :: st) ph = some (j, as, r0) → ∃ as2, pm_inv K ow (.invokestatic aux) (.ref 1048579 :: .int x :: .int y :: st) ph = some (j, as2, r0) ∧ ∀ r, pm_Rd K al D j as ph r → pm_Rd K al D j as2 ph r
/-- what the claim's tables give, once for all -/
def pm_ok (K : pm_K) (M : pm_M) (cl : List vw_C) (ALL nws : List Cond) (zs : List (String × String × String × Value)) (rs : List (String × Nat × String × Nat)) (aos : List String) (rof : Nat → String × String × String) (cn : Nat → String) (E : String) : Prop :=
  (∀ ow i kd a b v, pm_lnk K ow i = some (kd, a, b, v) → pm_lk K M cl ALL nws zs rs aos rof (cn ow) i kd a b v) ∧ pm_ck K cl ALL ∧ pm_base ALL ∧ pm_nwf nws ∧ GoodIn ALL ALL ∧ (∀ r, cl[pm_eci K]? = some r → r.1 = E ∧ E ∈ aos) ∧
  (∀ mj pc g ins aux, pm_code K mj pc = some (g, ins, aux) → decode (M mj).2.1 pc = .ok (ins, pm_len ins aux) ∧ pm_tok ins pc aux ∧ (∀ (i ci k : Nat) (v : Value), ins = .putfield i → pm_lnk K (pm_own K mj) i = some (6, ci, k, v) → ∀ (C : String) (T : u_T) (N : Nat), cl[ci]? = some (C, T, N) → (T k).2.2.2 = true → (M mj).1.name = "<init>" ∧ C = cn (pm_own K mj))) ∧
  (∀ mj q, pm_code K mj 0 = some q → plainName (M mj).1.cls = true ∧ Cond.code (M mj).1 (M mj).2.1 (M mj).2.2.1 (M mj).2.2.2 ∈ ALL ∧ Cond.initialized (M mj).1.cls ∈ ALL ∧ (M mj).1.cls ≠ "java/lang/invoke/MethodHandle" ∧ (M mj).1.cls ≠ "java/lang/invoke/VarHandle" ∧ (M mj).2.2.1 = (pm_sig K mj).2.1 ∧ (M mj).2.2.1 ≤ 100 ∧ pm_rk (pm_sig K mj).2.2 (M mj).2.2.2 ∧ cn (pm_own K mj) = (M mj).1.cls) ∧
  (∀ mj pc ins aux, pm_code K mj pc = some (8, ins, aux) → pm_m8 K (M mj).2.1 ALL zs (cn (pm_own K mj)) (pm_own K mj) pc ins aux)
section PMK
variable (K : pm_K) (M : pm_M) (cl : List vw_C) (ALL nws : List Cond) (zs : List (String × String × String × Value)) (rs : List (String × Nat × String × Nat)) (aos : List String) (rof : Nat → String × String × String) (E : String) (D : va_G) (dA : Nat → ClassId) (B : Nat) (ra : Nat → Nat) (al : Bool)
/-- the world of ph stands at U -/
def pm_In (ph : pm_H) (U : State) : Prop := va_P D cl (pm_ws (pm_ad B ra) dA B ph) U.heap ∧ va_K D cl (pm_tys dA E) U ∧ B ≤ U.heap.size ∧ (al = true → U.heap.size = B + ph.length) ∧ pm_RO zs rs aos nws K rof (pm_ad B ra) (fun q => B ≤ q) U U.heap
def pm_Qc (r : pm_R) : Array Value → State → Outcome → State → Prop := fun _ st oc t => oc = .returned (r.1.map (pm_u (pm_ad B ra))) ∧ pm_In K cl nws zs rs aos rof E D dA B ra al r.2.1 t ∧ va_F (fun q => B ≤ q) st t
/-- the contract of one run -/
def pm_Ct (l : Launch) (d mj : Nat) (as : List Value) (ph : pm_H) (r : pm_R) : Prop :=
  Met l (M mj).1 (pm_wds M ALL mj) (pm_rm d r.2.2.1 r.2.2.2) (va_Pc (as.map (pm_u (pm_ad B ra))) (pm_In K cl nws zs rs aos rof E D dA B ra al ph)) (pm_Qc K cl nws zs rs aos rof E D dA B ra al r) r.2.2.1 r.2.2.2 (fun q => B ≤ q)
end PMK
section PMT
variable {K : pm_K} {M : pm_M} {cl : List vw_C} {ALL nws : List Cond} {zs : List (String × String × String × Value)} {rs : List (String × Nat × String × Nat)} {aos : List String} {rof : Nat → String × String × String} {cn : Nat → String} {E : String} {D : va_G} {dA : Nat → ClassId} {B : Nat} {ra : Nat → Nat} {al : Bool}
variable {p : Program} {l : Launch} {e : Env} {R : Room} {s : State} {m : MethodId} {args : Array Value} {below : List Frame} {meth : Method} {c : Code} {H : Heap} {locs : List Loc} {cells slots : Nat} {Q : State → Prop}
theorem pm_In_same (hn : pm_nwf nws) {ph : pm_H} {u U : State} (hv : U.vm = u.vm) (hh : U.heap = u.heap) (h : pm_In K cl nws zs rs aos rof E D dA B ra al ph u) : pm_In K cl nws zs rs aos rof E D dA B ra al ph U := by
  obtain ⟨h1, h2, h3, h4, h5⟩ := h
  exact ⟨by rw [hh]; exact h1, va_K.moved (by rw [hv]; exact Vm.Alike.refl _) h2, by rw [hh]; exact h3, by rw [hh]; exact h4, pm_RO.same hn hv hh h5⟩
theorem pm_blind (hn : pm_nwf nws) (as : List Value) (ph : pm_H) : FrameBlind (va_Pc (as.map (pm_u (pm_ad B ra))) (pm_In K cl nws zs rs aos rof E D dA B ra al ph)) :=
  fun a U g mk q => ⟨q.1, pm_In_same (u := U) (U := U.calling g mk a) hn rfl rfl q.2⟩
theorem pm_In_of (hn : pm_nwf nws) {ph : pm_H} (hP : va_P D cl (pm_ws (pm_ad B ra) dA B ph) H) (hK : va_K D cl (pm_tys dA E) s) (hB : B ≤ s.heap.size) (hS : va_S (fun q => B ≤ q) s.heap H locs) (hz : al = true → H.size = B + ph.length) (hRO : pm_RO zs rs aos nws K rof (pm_ad B ra) (fun q => B ≤ q) s s.heap) {U : State} (hU : U.heap = H) (hW : s.WarmedH U.vm) : pm_In K cl nws zs rs aos rof E D dA B ra al ph U :=
  ⟨by rw [hU]; exact hP, va_K.moved hW.alike hK, by rw [hU]; exact Nat.le_trans hB hS.1, fun q => by rw [hU]; exact hz q, hRO.warm hn hW (fun a h1 h2 => by rw [hU]; exact hS.2.1 a h1 h2)⟩
/-- behind a call -/
theorem pm_go {mc ms pc : Nat} {ls : Array Slot} {st0 rest : List Value} {a : Array Value} {r : pm_R} (hr : va_Run p l e R s m args below meth c H locs cells slots mc ms (F0 m pc ls st0) rest (pm_Qc K cl nws zs rs aos rof E D dA B ra al r a) (fun q => B ≤ q)) (hS : va_S (fun q => B ≤ q) s.heap H locs)
    (kk : ∀ (H1 : Heap) (locs1 : List Loc), va_P D cl (pm_ws (pm_ad B ra) dA B r.2.1) H1 → va_S (fun q => B ≤ q) s.heap H1 locs1 → (al = true → H1.size = B + r.2.1.length) → W p l e R s m args below meth c H1 locs1 (cells + mc) (slots + ms) Q (F0 m (pc + 3) ls ((r.1.map (pm_u (pm_ad B ra))).toList ++ rest))) : W p l e R s m args below meth c H locs cells slots Q (F0 m pc ls st0) := by
  intro T hT X
  obtain ⟨v, st₀, t, T', L, h0, X', hL, e1, e2, ⟨hv, ⟨hP, hK, hB, hz, hRO⟩, hF⟩, st⟩ := hr T hT X
  cases hv
  have hz1 : H.size ≤ T'.heap.size := by rw [e1, ← h0]; exact hF.1
  obtain ⟨t2, a1, b1⟩ := kk T'.heap (locs ++ L) (by rw [e1]; exact hP) ⟨Nat.le_trans hS.1 hz1, fun q h1 h2 => by rw [e1, hF.2 q (by rw [h0]; exact Nat.lt_of_lt_of_le h1 hS.1) h2, h0]; exact hS.2.1 q h1 h2, fun q hq => by
      rcases List.mem_append.mp hq with h | h
      · exact hS.2.2 q h
      · exact hL q h⟩ (fun q => by rw [e1]; exact hz q) T' rfl X'
  exact ⟨t2, st t2 a1, b1⟩
theorem pm_tk {n : Nat} {st : List Value} (f : Value → Value) : ((st.take n).reverse.map f).reverse ++ (st.drop n).map f = st.map f := by
  rw [← List.map_reverse, List.reverse_reverse, ← List.map_append, List.take_append_drop]
theorem pm_tkl {n : Nat} {st : List Value} (f : Value → Value) (h : n ≤ st.length) : ((st.take n).reverse.map f).length = n := by
  simp
  omega
theorem pm_dropl {n : Nat} {st r : List Value} {v : Value} (h : st.drop n = v :: r) : n ≤ st.length := by
  have h1 := congrArg List.length h
  simp at h1
  omega
/-- a call -/
theorem pm_inv_ok {cc : ByteArray} {pc aux d mj j : Nat} {ls : Array Slot} {ins : Instr} {st rest as : List Value} {ph : pm_H} {r : pm_R} (ok : pm_ok K M cl ALL nws zs rs aos rof cn E)
    (hx : p.tables.exec = Jvm.exec) (hb : c.code = cc) (hd : decode cc pc = .ok (ins, pm_len ins aux)) (hml : ls.size = c.maxLocals) (hown : s.vm.findClass (cn (pm_own K mj)) = some m.cls) (hts : ∀ w ∈ ALL, w.before args s = true)
    (hK : va_K D cl (pm_tys dA E) s) (hRO : pm_RO zs rs aos nws K rof (pm_ad B ra) (fun q => B ≤ q) s s.heap) (hB : B ≤ s.heap.size)
    (hP : va_P D cl (pm_ws (pm_ad B ra) dA B ph) H) (hS : va_S (fun q => B ≤ q) s.heap H locs) (hz : al = true → H.size = B + ph.length) (hfr : d + 1 ≤ R.frames) (hlo : d * 128 + 128 ≤ R.locals) (hR : cells + r.2.2.1 ≤ R.cells ∧ slots + r.2.2.2 ≤ R.slots)
    (h : pm_inv K (pm_own K mj) ins st ph = some (j, as, rest)) (hcode : ∃ q, pm_code K j 0 = some q) (hC : pm_Ct K M cl ALL nws zs rs aos rof E D dA B ra al l d j as ph r)
    (kk : ∀ (H1 : Heap) (locs1 : List Loc), va_P D cl (pm_ws (pm_ad B ra) dA B r.2.1) H1 → va_S (fun q => B ≤ q) s.heap H1 locs1 → (al = true → H1.size = B + r.2.1.length) → W p l e R s m args below meth c H1 locs1 (cells + r.2.2.1) (slots + r.2.2.2) Q (F0 m (pc + 3) ls ((r.1.toList ++ rest).map (pm_u (pm_ad B ra))))) :
    W p l e R s m args below meth c H locs cells slots Q (F0 m pc ls (st.map (pm_u (pm_ad B ra)))) := by
  obtain ⟨olk, ock, obs, onw, oG, oE, ocd, omk, om8⟩ := ok
  obtain ⟨q0, hq0⟩ := hcode
  obtain ⟨m1, m2, m3, m4, m5, m6, m7, m8, m9⟩ := omk j q0 hq0
  have hnw : ∀ w ∈ nws, va_Nw w s := hRO.2.2.2.2.2
  have kk2 : ∀ (H1 : Heap) (locs1 : List Loc), va_P D cl (pm_ws (pm_ad B ra) dA B r.2.1) H1 → va_S (fun q => B ≤ q) s.heap H1 locs1 → (al = true → H1.size = B + r.2.1.length) → W p l e R s m args below meth c H1 locs1 (cells + r.2.2.1) (slots + r.2.2.2) Q (F0 m (pc + 3) ls ((r.1.map (pm_u (pm_ad B ra))).toList ++ rest.map (pm_u (pm_ad B ra)))) := by
    intro H1 locs1 a1 a2 a3
    have e9 : (r.1.map (pm_u (pm_ad B ra))).toList ++ rest.map (pm_u (pm_ad B ra)) = (r.1.toList ++ rest).map (pm_u (pm_ad B ra)) := by cases r.1 <;> rfl
    rw [e9]
    exact kk H1 locs1 a1 a2 a3
  have hGj : GoodIn ALL (pm_wds M ALL j) := by
    intro w hw
    rcases List.mem_cons.mp hw with rfl | hw
    · exact oG _ m2
    · exact oG _ hw
  have S : CallFix p m c cc c.maxLocals s args ALL (cn (pm_own K mj)) := ⟨hx, hb, rfl, hown, hts⟩
  have hRm : (pm_rm d r.2.2.1 r.2.2.2).frames + 1 ≤ R.frames ∧ 8 + ((M j).2.2.1 + 11) + (pm_rm d r.2.2.1 r.2.2.2).locals ≤ R.locals := ⟨hfr, by show 8 + ((M j).2.2.1 + 11) + d * 128 ≤ R.locals; omega⟩
  have hpre : ∀ U : State, U.heap = H → s.WarmedH U.vm → pm_In K cl nws zs rs aos rof E D dA B ra al ph U := fun U hU hW => pm_In_of onw hP hK hB hS hz hRO hU hW
  have room : ∀ {rr : List Value}, Nat.ble (rr.map fun v => v.category).sum 8 = true → ((rr.map (pm_u (pm_ad B ra))).map fun v => v.category).sum ≤ 8 := fun {rr} q => by rw [pm_u_sum]; exact Nat.le_of_ble_eq_true q
  have cB : ∀ {i n : Nat}, Cond.methodLink (cn (pm_own K mj)) i (M j).1 ∈ ALL → (parseMethodDescriptor (M j).1.desc).map (fun d => d.parameters.length) = some n → CallB R s args (cn (pm_own K mj)) i (M j).1 (M j).2.1 (M j).2.2.1 (M j).2.2.2 (pm_wds M ALL j) (pm_rm d r.2.2.1 r.2.2.2) r.2.2.1 r.2.2.2 n := fun {i n} hl hn => callB_of n hts hGj rfl rfl rfl (hts _ m3) (hts _ hl) ⟨m4, m5, hn⟩ hRm
  have cN : ∀ {i n : Nat} {host : String}, Cond.methodLinkNest (cn (pm_own K mj)) i (M j).1 host ∈ nws → (parseMethodDescriptor (M j).1.desc).map (fun d => d.parameters.length) = some n → va_CN R s args (cn (pm_own K mj)) i (M j).1 host (M j).2.1 (M j).2.2.1 (M j).2.2.2 (pm_wds M ALL j) (pm_rm d r.2.2.1 r.2.2.2) r.2.2.1 r.2.2.2 n := fun {i n host} hl hn => va_cnB n hts hGj rfl rfl rfl (hnw _ hl) (hts _ m3) ⟨m4, m5, hn⟩ hRm
  unfold pm_inv at h
  split at h
  · next i =>
    split at h
    · next j9 n w hw =>
      obtain ⟨hq, h2⟩ := pm_bif h
      cases h2
      obtain ⟨h3, h4⟩ := pm_and hq
      have hle : n ≤ st.length := Nat.le_of_ble_eq_true h3
      obtain ⟨hl, hn⟩ := (olk _ _ _ _ _ _ hw).2.2.2.2.2.2.2.2.2.2.1 (Or.inl rfl)
      have hst := (olk _ _ _ _ _ _ hw).2.2.2.2.2.2.2.2.2.2.2.1 rfl
      have hp : PreS s H (va_Pc ((st.take n).reverse.map (pm_u (pm_ad B ra))) (pm_In K cl nws zs rs aos rof E D dA B ra al ph)) ((st.take n).reverse.map (pm_u (pm_ad B ra))) := ⟨pm_blind onw _ _, fun U hU hW => ⟨rfl, hpre U hU hW⟩⟩
      rcases hl with hl | ⟨host, hl⟩
      · exact pm_go (va_runS S hC ⟨cB hl hn, hts _ hst⟩ hp rfl (pm_tkl _ hle) hml (pm_tk _).symm (lv_room (room h4)) hd hR) hS kk2
      · exact pm_go (va_runSN S hC ⟨cN hl hn, hts _ hst, trivial⟩ hp rfl (pm_tkl _ hle) hml (pm_tk _).symm (lv_room (room h4)) hd hR) hS kk2
    · cases h
  · next i =>
    split at h
    · next j9 n ci hw =>
      split at h
      · next a r9 hdr =>
        split at h
        · next cj fs hph =>
          obtain ⟨hq, h2⟩ := pm_bif h
          cases h2
          obtain ⟨h3, h4⟩ := pm_and hq
          have hcj : ci = cj := Nat.eq_of_beq_eq_true h3
          subst hcj
          have hle : n ≤ st.length := pm_dropl hdr
          obtain ⟨hl, hn⟩ := (olk _ _ _ _ _ _ hw).2.2.2.2.2.2.2.2.2.2.1 (Or.inr (Or.inl rfl))
          obtain ⟨hin, hse, hcls, -⟩ := (olk _ _ _ _ _ _ hw).2.2.2.2.2.2.2.2.2.2.2.2.1 rfl
          obtain ⟨T, N, hc⟩ := hcls ci rfl
          have e9 : pm_ad B ra a = B + a := pm_adE hph
          have hp : PreV s H (M j).1.cls (B + a) (va_Pc ((Value.ref a :: (st.take n).reverse).map (pm_u (pm_ad B ra))) (pm_In K cl nws zs rs aos rof E D dA B ra al ph)) ((st.take n).reverse.map (pm_u (pm_ad B ra))) := by
            refine ⟨pm_blind onw _ _, ?_, fun U hU hW => ⟨?_, hpre U hU hW⟩⟩
            · exact va_recv hK hP (ci := ci) (q0 := a) hc (pm_getE hph)
            · show _ = (Value.ref (pm_ad B ra a) :: _).toArray
              rw [e9]
          have hstk : st.map (pm_u (pm_ad B ra)) = ((st.take n).reverse.map (pm_u (pm_ad B ra))).reverse ++ .ref (B + a) :: rest.map (pm_u (pm_ad B ra)) := by
            rw [← pm_tk (n := n) (st := st) (pm_u (pm_ad B ra)), hdr, ← e9]
            rfl
          have hC2 : Met l (M j).1 (pm_wds M ALL j) (pm_rm d r.2.2.1 r.2.2.2) (va_Pc ((Value.ref a :: (st.take n).reverse).map (pm_u (pm_ad B ra))) (pm_In K cl nws zs rs aos rof E D dA B ra al ph)) (pm_Qc K cl nws zs rs aos rof E D dA B ra al r) r.2.2.1 r.2.2.2 (fun q => B ≤ q) := hC
          rcases hl with hl | ⟨host, hl⟩
          · exact pm_go (va_runV S hC2 ⟨cB hl hn, hts _ hin, hts _ hse⟩ hp rfl (pm_tkl _ hle) hml hstk (lv_room (room h4)) hd hR) hS kk2
          · exact pm_go (va_runVN S hC2 ⟨cN hl hn, hts _ hin, hts _ hse⟩ hp rfl (pm_tkl _ hle) hml hstk (lv_room (room h4)) hd hR) hS kk2
        · cases h
      · cases h
    · next j9 n hw =>
      split at h
      · next a r9 hdr =>
        cases hq : Nat.blt a 1048576 with
        | true => rw [hq] at h; cases h
        | false =>
          rw [hq] at h
          simp only [cond_false] at h
          split at h
          · next v9 hv9 =>
            obtain ⟨h4, h2⟩ := pm_bif h
            cases h2
            have hle : n ≤ st.length := pm_dropl hdr
            obtain ⟨hl, hn⟩ := (olk _ _ _ _ _ _ hw).2.2.2.2.2.2.2.2.2.2.1 (Or.inr (Or.inl rfl))
            obtain ⟨hin, hse, -, hcls⟩ := (olk _ _ _ _ _ _ hw).2.2.2.2.2.2.2.2.2.2.2.2.1 rfl
            have hcs := hcls rfl
            have hp : PreV s H (M j).1.cls (pm_ad B ra a) (va_Pc ((Value.ref a :: (st.take n).reverse).map (pm_u (pm_ad B ra))) (pm_In K cl nws zs rs aos rof E D dA B ra al ph)) ((st.take n).reverse.map (pm_u (pm_ad B ra))) := by
              refine ⟨pm_blind onw _ _, ?_, fun U hU hW => ⟨rfl, hpre U hU hW⟩⟩
              obtain ⟨cell, g1, g2, g3, -⟩ := ((hRO.2.2.2.1 a _ _ hq hv9).1).kept hS.2.1
              exact ⟨cell, g1, g2, by rw [hcs]; exact g3⟩
            have hstk : st.map (pm_u (pm_ad B ra)) = ((st.take n).reverse.map (pm_u (pm_ad B ra))).reverse ++ .ref (pm_ad B ra a) :: rest.map (pm_u (pm_ad B ra)) := by
              rw [← pm_tk (n := n) (st := st) (pm_u (pm_ad B ra)), hdr]
              rfl
            have hC2 : Met l (M j).1 (pm_wds M ALL j) (pm_rm d r.2.2.1 r.2.2.2) (va_Pc ((Value.ref a :: (st.take n).reverse).map (pm_u (pm_ad B ra))) (pm_In K cl nws zs rs aos rof E D dA B ra al ph)) (pm_Qc K cl nws zs rs aos rof E D dA B ra al r) r.2.2.1 r.2.2.2 (fun q => B ≤ q) := hC
            rcases hl with hl | ⟨host, hl⟩
            · exact pm_go (va_runV S hC2 ⟨cB hl hn, hts _ hin, hts _ hse⟩ hp rfl (pm_tkl _ hle) hml hstk (lv_room (room h4)) hd hR) hS kk2
            · exact pm_go (va_runVN S hC2 ⟨cN hl hn, hts _ hin, hts _ hse⟩ hp rfl (pm_tkl _ hle) hml hstk (lv_room (room h4)) hd hR) hS kk2
          · cases h
      · cases h
    · cases h
  · next i =>
    split at h
    · next j9 n w hw =>
      split at h
      · next a r9 hdr =>
        obtain ⟨h4, h2⟩ := pm_bif h
        cases h2
        have hle : n ≤ st.length := pm_dropl hdr
        obtain ⟨hl, hn⟩ := (olk _ _ _ _ _ _ hw).2.2.2.2.2.2.2.2.2.2.1 (Or.inr (Or.inr rfl))
        obtain ⟨hnm, hin, hrt⟩ := (olk _ _ _ _ _ _ hw).2.2.2.2.2.2.2.2.2.2.2.2.2.1 rfl
        have hp : PreS s H (va_Pc ((Value.ref a :: (st.take n).reverse).map (pm_u (pm_ad B ra))) (pm_In K cl nws zs rs aos rof E D dA B ra al ph)) (.ref (pm_ad B ra a) :: (st.take n).reverse.map (pm_u (pm_ad B ra))) := ⟨pm_blind onw _ _, fun U hU hW => ⟨rfl, hpre U hU hW⟩⟩
        have hstk : st.map (pm_u (pm_ad B ra)) = ((st.take n).reverse.map (pm_u (pm_ad B ra))).reverse ++ .ref (pm_ad B ra a) :: rest.map (pm_u (pm_ad B ra)) := by
          rw [← pm_tk (n := n) (st := st) (pm_u (pm_ad B ra)), hdr]
          rfl
        have hC2 : Met l (M j).1 (pm_wds M ALL j) (pm_rm d r.2.2.1 r.2.2.2) (va_Pc ((Value.ref a :: (st.take n).reverse).map (pm_u (pm_ad B ra))) (pm_In K cl nws zs rs aos rof E D dA B ra al ph)) (pm_Qc K cl nws zs rs aos rof E D dA B ra al r) r.2.2.1 r.2.2.2 (fun q => B ≤ q) := hC
        rcases hl with hl | ⟨host, hl⟩
        · exact pm_go (va_runI (bytes := (M j).2.1) (maxL := (M j).2.2.1) S hC2 ⟨by rw [← hrt]; exact cB hl hn, hnm, hts _ hin⟩ hp rfl (pm_tkl _ hle) hml hstk (lv_room (room h4)) hd hR) hS kk2
        · exact pm_go (va_runIN (bytes := (M j).2.1) (maxL := (M j).2.2.1) S hC2 ⟨by rw [← hrt]; exact cN hl hn, hnm, hts _ hin⟩ hp rfl (pm_tkl _ hle) hml hstk (lv_room (room h4)) hd hR) hS kk2
      · cases h
    · cases h
  · cases h
theorem pm_Tn_mono {C : Nat → List Value → pm_H → pm_R → Prop} {mj : Nat} : ∀ (n : Nat) (x : pm_S) (r : pm_R), pm_Tn K al C mj n x r → x.2.2.2.2.1 ≤ r.2.2.1 ∧ x.2.2.2.2.2 ≤ r.2.2.2 := by
  intro n
  induction n with
  | zero => intro x r h; exact h.elim
  | succ n ih =>
    intro x r h
    rw [pm_Tn] at h
    split at h
    · exact h.elim
    · next x' hx =>
      obtain ⟨pc, L, st, ph, cs, ss⟩ := x
      have h2 := ih _ _ h
      have h3 : cs ≤ x'.2.2.2.2.1 ∧ ss ≤ x'.2.2.2.2.2 := by
        unfold pm_step at hx
        simp only at hx
        split at hx
        · cases hx
        · next g ins aux hc =>
          split at hx
          all_goals first
            | (cases hx; done)
            | (split at hx <;> first | (cases hx; exact ⟨Nat.le_refl _, Nat.le_refl _⟩) | (cases hx; exact ⟨Nat.le_add_right _ _, Nat.le_add_right _ _⟩) | (cases hx; done))
      exact ⟨Nat.le_trans h3.1 h2.1, Nat.le_trans h3.2 h2.2⟩
    · next j as pc L st ph cs ss hx =>
      obtain ⟨v, ph', c1, s1, -, h⟩ := h
      have h2 := ih _ _ h
      obtain ⟨pc0, L0, st0, ph0, cs0, ss0⟩ := x
      have h3 : cs0 = cs ∧ ss0 = ss := by
        unfold pm_step at hx
        simp only at hx
        split at hx
        · cases hx
        · next g ins aux hc =>
          split at hx
          all_goals first
            | (cases hx; done)
            | (split at hx <;> first | (cases hx; exact ⟨rfl, rfl⟩) | (cases hx; done))
      obtain ⟨rfl, rfl⟩ := h3
      exact ⟨Nat.le_trans (Nat.le_add_right _ _) h2.1, Nat.le_trans (Nat.le_add_right _ _) h2.2⟩
    · next v hx =>
      subst h
      exact ⟨Nat.le_refl _, Nat.le_refl _⟩
theorem pm_Rd_code {d j : Nat} {as : List Value} {ph : pm_H} {r : pm_R} (h : pm_Rd K al d j as ph r) : ∃ q, pm_code K j 0 = some q := by
  cases d with
  | zero => exact h.elim
  | succ d =>
    obtain ⟨-, n, hn⟩ := h
    cases n with
    | zero => exact hn.elim
    | succ n =>
      cases hq : pm_code K j 0 with
      | some q => exact ⟨q, rfl⟩
      | none =>
        rw [pm_Tn] at hn
        simp [pm_step, pm_ent, hq] at hn
set_option maxHeartbeats 4000000 in
/-- from any state within a method -/
theorem pm_T_ok (ok : pm_ok K M cl ALL nws zs rs aos rof cn E) {d mj : Nat} (IH : ∀ j as ph r, pm_Rd K al d j as ph r → pm_Ct K M cl ALL nws zs rs aos rof E D dA B ra al l d j as ph r)
    (hx : p.tables.exec = Jvm.exec) (hb : c.code = (M mj).2.1) (hret : meth.sig.returnType = (M mj).2.2.2) (hrk : pm_rk (pm_sig K mj).2.2 (M mj).2.2.2) (hown : s.vm.findClass (cn (pm_own K mj)) = some m.cls) (hname : meth.name = (M mj).1.name) (hlocks : meth.locks = false) (hts : ∀ w ∈ ALL, w.before args s = true)
    (hK : va_K D cl (pm_tys dA E) s) (hRO : pm_RO zs rs aos nws K rof (pm_ad B ra) (fun q => B ≤ q) s s.heap) (hB : B ≤ s.heap.size) :
    ∀ (n : Nat) (x : pm_S) (r : pm_R), pm_Tn K al (pm_Rd K al d) mj n x r → ∀ (H : Heap) (locs : List Loc) (ls : Array Slot), va_P D cl (pm_ws (pm_ad B ra) dA B x.2.2.2.1) H → va_S (fun q => B ≤ q) s.heap H locs → (al = true → H.size = B + x.2.2.2.1.length) → pm_lr (pm_ad B ra) ls c.maxLocals x.2.1 →
      W p l e (pm_rm (d + 1) r.2.2.1 r.2.2.2) s m args below meth c H locs x.2.2.2.2.1 x.2.2.2.2.2 (MQ below (pm_Qc K cl nws zs rs aos rof E D dA B ra al r) args s r.2.2.1 r.2.2.2 (fun q => B ≤ q)) (F0 m x.1 ls (x.2.2.1.map (pm_u (pm_ad B ra)))) := by
  have ok0 := ok
  obtain ⟨olk, ock, obs, onw, oG, oE, ocd, omk, om8⟩ := ok
  intro n
  induction n with
  | zero => intro x r h; exact h.elim
  | succ n ih =>
    intro x r h H locs ls hP hS hz hl
    have hmono := pm_Tn_mono _ _ _ h
    rw [pm_Tn] at h
    split at h
    · exact h.elim
    · next x' hx0 =>
      have hmono2 := pm_Tn_mono _ _ _ h
      obtain ⟨pc, L, st, ph, cs, ss⟩ := x
      have ih2 := ih _ _ h
      unfold pm_step at hx0
      simp only at hx0
      split at hx0
      · cases hx0
      · next g ins aux hc =>
        obtain ⟨hd, htk, hfin⟩ := ocd _ _ _ _ _ hc
        split at hx0
        · split at hx0
          · next st' hs =>
            cases hx0
            exact pm_alu_ok hx hb hd hs (ih2 H locs ls hP hS hz hl)
          · cases hx0
        · split at hx0
          · next v k hs =>
            cases hx0
            exact pm_push_ok hx hb hd hown hts (fun i kd a b v hw => olk _ i kd a b v hw) hRO hS hs (ih2 H locs ls hP hS hz hl)
          · cases hx0
        · split at hx0
          · next v k hs =>
            cases hx0
            exact pm_load_ok hx hb hd hl hs (ih2 H locs ls hP hS hz hl)
          · cases hx0
        · split at hx0
          · next L' st' k hs =>
            cases hx0
            exact pm_store_ok hx hb hd hl hs (fun ls' hl' => ih2 H locs ls' hP hS hz hl')
          · cases hx0
        · split at hx0
          · next pc' st' hs =>
            cases hx0
            exact pm_br_ok hx hb hd htk hs (ih2 H locs ls hP hS hz hl)
          · cases hx0
        · split at hx0
          · next k st' ph' c1 s1 hs =>
            cases hx0
            refine pm_mem_ok hx hb hd hl.1 hown hts (fun i kd a b v hw => olk _ i kd a b v hw) ock obs ?_ oE hK hRO hB hP hS hz (Nat.le_add_left 1 d) ?_ hmono2 hs (fun H1 locs1 hP1 hS1 hz1 => ih2 H1 locs1 ls hP1 hS1 hz1 hl)
            · intro i ci k v e1 e2 C T N e3 e4
              obtain ⟨g1, g2⟩ := hfin i ci k v e1 e2 C T N e3 e4
              exact ⟨hname.trans g1, g2⟩
            · show 8 + (nativeFrameWords "java/lang/System" "arraycopy" 5 + 13) ≤ (d + 1) * 128
              have e0 : nativeFrameWords "java/lang/System" "arraycopy" 5 ≤ 100 := by decide +kernel
              omega
          · cases hx0
        · split at hx0
          · cases hx0
          · cases hx0
        · split at hx0
          · cases hx0
          · cases hx0
        · split at hx0
          · cases hx0
          · cases hx0
        · cases hx0
    · next j as pc L st ph cs ss hx0 =>
      obtain ⟨v, ph', c1, s1, hC, h⟩ := h
      have hmono2 := pm_Tn_mono _ _ _ h
      obtain ⟨pc0, L0, st0, ph0, cs0, ss0⟩ := x
      have ih2 := ih _ _ h
      unfold pm_step at hx0
      simp only at hx0
      split at hx0
      · cases hx0
      · next g ins aux hc =>
        obtain ⟨hd, htk, hfin⟩ := ocd _ _ _ _ _ hc
        split at hx0
        · split at hx0
          · cases hx0
          · cases hx0
        · split at hx0
          · cases hx0
          · cases hx0
        · split at hx0
          · cases hx0
          · cases hx0
        · split at hx0
          · cases hx0
          · cases hx0
        · split at hx0
          · cases hx0
          · cases hx0
        · split at hx0
          · cases hx0
          · cases hx0
        · split at hx0
          · next j' as' r' hs =>
            cases hx0
            exact pm_inv_ok (d := d) (r := (v, ph', c1, s1)) ok0 hx hb hd hl.1 hown hts hK hRO hB hP hS hz (Nat.le_refl _) (by show d * 128 + 128 ≤ (d + 1) * 128; omega) hmono2 hs (pm_Rd_code hC) (IH _ _ _ _ hC) (fun H1 locs1 hP1 hS1 hz1 => ih2 H1 locs1 ls hP1 hS1 hz1 hl)
          · cases hx0
        · split at hx0
          · cases hx0
          · cases hx0
        · split at hx0
          · next j' as' r' hs =>
            cases hx0
            obtain ⟨i8, C8, n8, d8, e8, hz8, hc8, hd8, hsim⟩ := om8 _ _ _ _ hc
            subst e8
            unfold pm_mac at hs
            split at hs
            · next xx yy rr =>
              cases hcond : (!decide (yy < 0) && decide (yy < xx)) with
              | false => rw [hcond] at hs; cases hs
              | true =>
                rw [hcond] at hs
                simp only [cond_true] at hs
                obtain ⟨q1, q2⟩ := pm_and hcond
                have q1' : ¬ yy < 0 := fun q => by rw [decide_eq_true q] at q1; cases q1
                obtain ⟨as2, hi2, hr2⟩ := hsim al d xx yy rr ph _ _ _ q1' (of_decide_eq_true q2) hs
                rcases hRO.1 _ hz8 with hz9 | ⟨-, hz9⟩
                · refine va_gets hx hb hz9 hS hown (hts _ hc8) (fun _ h9 => h9) hd ?_
                  exact pm_inv_ok (d := d) (aux := 0) (st := .ref 1048579 :: .int xx :: .int yy :: rr) (r := (v, ph', c1, s1)) ok0 hx hb hd8 hl.1 hown hts hK hRO hB hP hS hz (Nat.le_refl _) (by show d * 128 + 128 ≤ (d + 1) * 128; omega) hmono2 hi2 (pm_Rd_code (hr2 _ hC)) (IH _ _ _ _ (hr2 _ hC)) (fun H1 locs1 hP1 hS1 hz1 => ih2 H1 locs1 ls hP1 hS1 hz1 hl)
                · refine va_gets hx hb hz9 hS hown (hts _ hc8) (fun _ h9 => h9) hd ?_
                  exact pm_inv_ok (d := d) (aux := 0) (st := .null :: .int xx :: .int yy :: rr) (r := (v, ph', c1, s1)) ok0 hx hb hd8 hl.1 hown hts hK hRO hB hP hS hz (Nat.le_refl _) (by show d * 128 + 128 ≤ (d + 1) * 128; omega) hmono2 hs (pm_Rd_code hC) (IH _ _ _ _ hC) (fun H1 locs1 hP1 hS1 hz1 => ih2 H1 locs1 ls hP1 hS1 hz1 hl)
            · cases hs
          · cases hx0
        · cases hx0
    · next v hx0 =>
      subst h
      obtain ⟨pc, L, st, ph, cs, ss⟩ := x
      have hq : ∀ t : State, t.heap = H → s.WarmedH t.vm → pm_Qc K cl nws zs rs aos rof E D dA B ra al (v, ph, cs, ss) args s (.returned (v.map (pm_u (pm_ad B ra)))) t := fun t ht hW => ⟨rfl, pm_In_of onw hP hK hB hS hz hRO ht hW, hS.F ht⟩
      unfold pm_step at hx0
      simp only at hx0
      split at hx0
      · cases hx0
      · next g ins aux hc =>
        obtain ⟨hd, htk, hfin⟩ := ocd _ _ _ _ _ hc
        obtain ⟨k0, k1, k2, k3, k4, k5, k6⟩ := hrk
        split at hx0
        · split at hx0
          · cases hx0
          · cases hx0
        · split at hx0
          · cases hx0
          · cases hx0
        · split at hx0
          · cases hx0
          · cases hx0
        · split at hx0
          · cases hx0
          · cases hx0
        · split at hx0
          · cases hx0
          · cases hx0
        · split at hx0
          · cases hx0
          · cases hx0
        · split at hx0
          · cases hx0
          · cases hx0
        · split at hx0
          · next w hs =>
            cases hx0
            unfold pm_ret at hs
            split at hs
            · obtain ⟨h1, rfl⟩ := pm_bif hs
              exact W.vret hx hb (hret.trans (k0 (Nat.eq_of_beq_eq_true h1))) hq hS.2.2 hd hlocks
            · next y =>
              cases e1 : Nat.beq (pm_sig K mj).2.2 1 with
              | true =>
                rw [e1] at hs
                cases hs
                exact W.iret hx hb (hret.trans (k1 (Nat.eq_of_beq_eq_true e1))) hq hS.2.2 hd hlocks
              | false =>
                rw [e1] at hs
                simp only [cond_false] at hs
                cases e2 : (Nat.beq (pm_sig K mj).2.2 2 && (bif decide (y = 0) then true else decide (y = 1))) with
                | true =>
                  rw [e2] at hs
                  cases hs
                  obtain ⟨e3, e4⟩ := pm_and e2
                  refine W.zret (ty := .boolean) hx hb (hret.trans (k2 (Nat.eq_of_beq_eq_true e3))) ?_ hq hS.2.2 hd hlocks
                  have e5 : pm_fit .boolean (.int y) = true := e4
                  exact (pm_fit_ok (ad := fun q => q) e5).1
                | false =>
                  rw [e2] at hs
                  simp only [cond_false] at hs
                  cases e6 : (Nat.beq (pm_sig K mj).2.2 5 && decide (y.toUInt32.toUInt16.toUInt32.toInt32 = y)) with
                  | true =>
                    rw [e6] at hs
                    cases hs
                    obtain ⟨e3, e4⟩ := pm_and e6
                    refine W.zret (ty := .char) hx hb (hret.trans (k5 (Nat.eq_of_beq_eq_true e3))) ?_ hq hS.2.2 hd hlocks
                    show Value.int y.toUInt32.toUInt16.toUInt32.toInt32 = _
                    rw [of_decide_eq_true e4]
                  | false =>
                    rw [e6] at hs
                    simp only [cond_false] at hs
                    obtain ⟨h1, rfl⟩ := pm_bif hs
                    obtain ⟨e3, e4⟩ := pm_and h1
                    refine W.zret (ty := .byte) hx hb (hret.trans (k6 (Nat.eq_of_beq_eq_true e3))) ?_ hq hS.2.2 hd hlocks
                    show Value.int y.toInt8.toInt32 = _
                    rw [of_decide_eq_true e4]
            · obtain ⟨h1, rfl⟩ := pm_bif hs
              exact W.lret hx hb (hret.trans (k3 (Nat.eq_of_beq_eq_true h1))) hq hS.2.2 hd hlocks
            · next a =>
              obtain ⟨h1, rfl⟩ := pm_bif hs
              obtain ⟨rt, e1, e2⟩ := k4 (Nat.eq_of_beq_eq_true h1)
              exact W.aret (v := .ref (pm_ad B ra a)) hx hb (hret.trans e1) e2 (Or.inr ⟨_, rfl⟩) hq hS.2.2 hd hlocks
            · obtain ⟨h1, rfl⟩ := pm_bif hs
              obtain ⟨rt, e1, e2⟩ := k4 (Nat.eq_of_beq_eq_true h1)
              exact W.aret (v := .null) hx hb (hret.trans e1) e2 (Or.inl rfl) hq hS.2.2 hd hlocks
            · cases hs
          · cases hx0
        · split at hx0
          · cases hx0
          · cases hx0
        · cases hx0
theorem pm_sl_eq (ad : Nat → Nat) : ∀ (as : List Value), lg_sl (as.map (pm_u ad)) = (pm_sl as).map (fun o => match o with | some v => Slot.val (pm_u ad v) | none => Slot.second) := by
  intro as
  induction as with
  | nil => rfl
  | cons v t ih =>
    have e0 : lg_sl ((v :: t).map (pm_u ad)) = (if (pm_u ad v).category = 2 then [Slot.val (pm_u ad v), Slot.second] else [Slot.val (pm_u ad v)]) ++ lg_sl (t.map (pm_u ad)) := rfl
    rw [e0, ih]
    cases v <;> rfl
theorem pm_ent_lr {ad : Nat → Nat} {mj : Nat} {as : List Value} (h : pm_entB K mj as = true) : pm_lr ad ((lg_sl (as.map (pm_u ad)) ++ List.replicate ((pm_sig K mj).2.1 - (lg_sl (as.map (pm_u ad))).length) Slot.unset).toArray) (pm_sig K mj).2.1 (pm_sl as ++ List.replicate ((pm_sig K mj).2.1 - (pm_sl as).length) none) := by
  have hlen : (lg_sl (as.map (pm_u ad))).length = (pm_sl as).length := by rw [pm_sl_eq, List.length_map]
  have hle : (pm_sl as).length ≤ (pm_sig K mj).2.1 := Nat.le_of_ble_eq_true h
  obtain ⟨g1, g2, -⟩ := lv_entry (as.map (pm_u ad)) (n := (pm_sig K mj).2.1) (by rw [hlen]; exact hle)
  refine ⟨g1, by simp; omega, g2, fun i v hi => ?_⟩
  by_cases hi2 : i < (pm_sl as).length
  · rw [List.getElem?_append_left hi2] at hi
    rw [List.getElem?_toArray, List.getElem?_append_left (by rw [hlen]; exact hi2), pm_sl_eq, List.getElem?_map, hi]
    rfl
  · rw [List.getElem?_append_right (by omega), List.getElem?_replicate] at hi
    split at hi
    · cases hi
    · cases hi
set_option maxHeartbeats 1000000 in
/-- a run is a contract -/
theorem pm_sound (ok : pm_ok K M cl ALL nws zs rs aos rof cn E) (l : Launch) : ∀ (d mj : Nat) (as : List Value) (ph : pm_H) (r : pm_R), pm_Rd K al d mj as ph r → pm_Ct K M cl ALL nws zs rs aos rof E D dA B ra al l d mj as ph r := by
  intro d
  induction d with
  | zero => intro mj as ph r h; exact h.elim
  | succ d IH =>
    intro mj as ph r h
    obtain ⟨q0, hq0⟩ := pm_Rd_code h
    obtain ⟨hent, n, hn⟩ := h
    have ok0 := ok
    obtain ⟨olk, ock, obs, onw, oG, oE, ocd, omk, om8⟩ := ok
    obtain ⟨m1, m2, m3, m4, m5, m6, m7, m8, m9⟩ := omk mj q0 hq0
    refine Met.ofW (cc := (M mj).2.1) (maxL := (M mj).2.2.1) (ret := (M mj).2.2.2) m1 rfl ?_
    intro p e s m args below meth c s₁ B0 hml hv
    obtain ⟨rfl, hP, hK, hB, hz, hRO⟩ := hv
    have hts0 := atoms_spec (ws := pm_wds M ALL mj) B0.pre
    have hts : ∀ w ∈ ALL, w.before _ s = true := fun w hw => hts0 w (List.mem_cons_of_mem _ hw)
    have hown : s.vm.findClass (cn (pm_own K mj)) = some m.cls := by rw [m9]; exact findClass_of_methodNamed B0.named
    rw [lg_entry_eq, m6]
    have hl := pm_ent_lr (ad := pm_ad B ra) hent
    rw [← m6, ← hml] at hl
    rw [← m6, ← hml]
    exact pm_T_ok ok0 IH B0.exec B0.bytes B0.returns m8 hown (name_of_methodNamed B0.named B0.method).1 B0.notSynchronized hts hK hRO hB n (pm_ent K mj as ph) r hn s.heap [] _ hP va_S.rf hz (by
      have e9 : pm_lr (pm_ad B ra) _ c.maxLocals (pm_sl as ++ List.replicate (c.maxLocals - (pm_sl as).length) none) := hl
      show pm_lr (pm_ad B ra) _ c.maxLocals (pm_sl as ++ List.replicate ((pm_sig K mj).2.1 - (pm_sl as).length) none)
      rw [← m6, ← hml]
      exact e9)
end PMT

/-! PM: the tables as lists: rows of methods, links by owner -/
def pm_nth {α : Type} : List α → Nat → Option α
  | [], _ => none
  | a :: _, 0 => some a
  | _ :: t, n + 1 => pm_nth t n
def pm_lu {α : Type} : List (Nat × α) → Nat → Option α
  | [], _ => none
  | (k, v) :: t, n => bif Nat.beq k n then some v else pm_lu t n
def pm_nth2 {α : Type} (t : List (List α)) (n : Nat) : Option α := match pm_nth t (n / 16) with
  | some c => pm_nth c (n % 16)
  | none => none
def pm_tl {α : Type} (t : List (List (Nat × α))) (n : Nat) : Option α := match pm_nth t (n / 16) with
  | some c => pm_lu c n
  | none => none
theorem pm_nth_mem {α : Type} : ∀ {l : List α} {n : Nat} {a : α}, pm_nth l n = some a → a ∈ l := by
  intro l
  induction l with
  | nil => intro n a h; cases h
  | cons b t ih =>
    intro n a h
    cases n with
    | zero => cases h; exact List.mem_cons_self
    | succ n => exact List.mem_cons_of_mem _ (ih h)
theorem pm_lu_mem {α : Type} : ∀ {l : List (Nat × α)} {n : Nat} {a : α}, pm_lu l n = some a → (n, a) ∈ l := by
  intro l
  induction l with
  | nil => intro n a h; cases h
  | cons b t ih =>
    intro n a h
    obtain ⟨k, v⟩ := b
    rw [pm_lu] at h
    cases hb : Nat.beq k n with
    | true =>
      rw [hb] at h
      cases h
      have e : k = n := Nat.eq_of_beq_eq_true hb
      rw [e]
      exact List.mem_cons_self
    | false =>
      rw [hb] at h
      exact List.mem_cons_of_mem _ (ih h)
theorem pm_nth2_mem {α : Type} {t : List (List α)} {n : Nat} {a : α} (h : pm_nth2 t n = some a) : ∃ c ∈ t, a ∈ c := by
  unfold pm_nth2 at h
  split at h
  · next c hc => exact ⟨c, pm_nth_mem hc, pm_nth_mem h⟩
  · cases h
theorem pm_tl_mem {α : Type} {t : List (List (Nat × α))} {n : Nat} {a : α} (h : pm_tl t n = some a) : ∃ c ∈ t, (n, a) ∈ c := by
  unfold pm_tl at h
  split at h
  · next c hc => exact ⟨c, pm_nth_mem hc, pm_lu_mem h⟩
  · cases h
/-- a method: name, bytes, locals, type of answer; owner; parameters, locals, kind of answer; code -/
abbrev pm_Row : Type := (MethodName × ByteArray × Nat × Option FieldType) × Nat × (Nat × Nat × Nat) × List (List (Nat × Nat × Instr × Nat))
abbrev pm_Lks : Type := List (String × List (List (Nat × pm_L)))
def pm_rowM (rows : List (List pm_Row)) : pm_M := fun j => match pm_nth2 rows j with
  | some r => r.1
  | none => (⟨"", "", ""⟩, ⟨#[]⟩, 0, none)
def pm_lkT (lks : pm_Lks) (ow i : Nat) : Option pm_L := match pm_nth lks ow with
  | some o => pm_tl o.2 i
  | none => none
def pm_cn (lks : pm_Lks) (ow : Nat) : String := match pm_nth lks ow with
  | some o => o.1
  | none => ""
def pm_mkK (rows : List (List pm_Row)) (lks : pm_Lks) (ra : Nat → Option (Nat × Nat × (Nat → Value))) (ro : Nat → Nat → Option Value) (nw : Nat → List Value) (ft : Nat → Nat → FieldType) (ec : Nat) : pm_K :=
  (fun j pc => match pm_nth2 rows j with
    | some r => pm_tl r.2.2.2 pc
    | none => none, fun j => match pm_nth2 rows j with
    | some r => r.2.1
    | none => 0, fun ow i => pm_lkT lks ow i, fun j => match pm_nth2 rows j with
    | some r => r.2.2.1
    | none => (0, 0, 0), ra, ro, nw, ft, ec)
def pm_tokB (ins : Instr) (pc aux : Nat) : Bool := match ins with
  | .ifCond _ o => decide ((pc : Int) + o = (aux : Int))
  | .if_icmp _ o => decide ((pc : Int) + o = (aux : Int))
  | .goto o => decide ((pc : Int) + o = (aux : Int))
  | _ => true
theorem pm_tokB_ok {ins : Instr} {pc aux : Nat} (h : pm_tokB ins pc aux = true) : pm_tok ins pc aux := by
  unfold pm_tokB at h
  unfold pm_tok
  split at h
  · exact of_decide_eq_true h
  · exact of_decide_eq_true h
  · exact of_decide_eq_true h
  · next h1 h2 h3 =>
    split
    · next cnd o => exact absurd rfl (h1 cnd o)
    · next cnd o => exact absurd rfl (h2 cnd o)
    · next o => exact absurd rfl (h3 o)
    · trivial
def pm_finB (cl : List vw_C) (lk : Nat → Option pm_L) (y : MethodName) (ins : Instr) : Bool := match ins with
  | .putfield i => (match lk i with
      | some (6, ci, k, _) => (match cl[ci]? with
          | some q => bif (q.2.1 k).2.2.2 then decide (y.name = "<init>") && decide (q.1 = y.cls) else true
          | none => true)
      | _ => true)
  | _ => true
def pm_rkB (kd : Nat) (ret : Option FieldType) : Bool := match kd, ret with
  | 0, none => true
  | 1, some .int => true
  | 2, some .boolean => true
  | 3, some .long => true
  | 4, some (.object _) => true
  | 4, some (.array _) => true
  | 5, some .char => true
  | 6, some .byte => true
  | _, _ => false
theorem pm_rkB_ok {kd : Nat} {ret : Option FieldType} (h : pm_rkB kd ret = true) : pm_rk kd ret := by
  unfold pm_rkB at h
  split at h
  · exact ⟨fun _ => rfl, fun q => (by cases q), fun q => (by cases q), fun q => (by cases q), fun q => (by cases q), fun q => (by cases q), fun q => (by cases q)⟩
  · exact ⟨fun q => (by cases q), fun _ => rfl, fun q => (by cases q), fun q => (by cases q), fun q => (by cases q), fun q => (by cases q), fun q => (by cases q)⟩
  · exact ⟨fun q => (by cases q), fun q => (by cases q), fun _ => rfl, fun q => (by cases q), fun q => (by cases q), fun q => (by cases q), fun q => (by cases q)⟩
  · exact ⟨fun q => (by cases q), fun q => (by cases q), fun q => (by cases q), fun _ => rfl, fun q => (by cases q), fun q => (by cases q), fun q => (by cases q)⟩
  · exact ⟨fun q => (by cases q), fun q => (by cases q), fun q => (by cases q), fun q => (by cases q), fun _ => ⟨_, rfl, Or.inl ⟨_, rfl⟩⟩, fun q => (by cases q), fun q => (by cases q)⟩
  · exact ⟨fun q => (by cases q), fun q => (by cases q), fun q => (by cases q), fun q => (by cases q), fun _ => ⟨_, rfl, Or.inr ⟨_, rfl⟩⟩, fun q => (by cases q), fun q => (by cases q)⟩
  · exact ⟨fun q => (by cases q), fun q => (by cases q), fun q => (by cases q), fun q => (by cases q), fun q => (by cases q), fun _ => rfl, fun q => (by cases q)⟩
  · exact ⟨fun q => (by cases q), fun q => (by cases q), fun q => (by cases q), fun q => (by cases q), fun q => (by cases q), fun q => (by cases q), fun _ => rfl⟩
  · cases h
/-- what a row must give -/
def pm_rowok (cl : List vw_C) (ALL : List Cond) (lks : pm_Lks) (r : pm_Row) : Prop :=
  (∀ c ∈ r.2.2.2, ∀ q ∈ c, decode r.1.2.1 q.1 = .ok (q.2.2.1, pm_len q.2.2.1 q.2.2.2) ∧ pm_tokB q.2.2.1 q.1 q.2.2.2 = true ∧ pm_finB cl (pm_lkT lks r.2.1) r.1.1 q.2.2.1 = true) ∧
  (plainName r.1.1.cls = true ∧ r.1.1.cls ≠ "java/lang/invoke/MethodHandle" ∧ r.1.1.cls ≠ "java/lang/invoke/VarHandle" ∧ r.1.2.2.1 = r.2.2.1.2.1 ∧ r.1.2.2.1 ≤ 100 ∧ pm_rkB r.2.2.1.2.2 r.1.2.2.2 = true ∧ pm_cn lks r.2.1 = r.1.1.cls) ∧
  Cond.code r.1.1 r.1.2.1 r.1.2.2.1 r.1.2.2.2 ∈ ALL ∧ Cond.initialized r.1.1.cls ∈ ALL
/-- no piece of group 8 -/
def pm_no8 (r : pm_Row) : Bool := r.2.2.2.all (fun c => c.all (fun q => !Nat.beq q.2.1 8))
theorem pm_mk_ok {rows : List (List pm_Row)} {lks : pm_Lks} {ra : Nat → Option (Nat × Nat × (Nat → Value))} {ro : Nat → Nat → Option Value} {nw : Nat → List Value} {ft : Nat → Nat → FieldType} {ec : Nat} {cl : List vw_C} {ALL nws : List Cond} {zs : List (String × String × String × Value)} {rs : List (String × Nat × String × Nat)} {aos : List String} {rof : Nat → String × String × String} {E : String}
    (hl : ∀ o ∈ lks, ∀ c ∈ o.2, ∀ q ∈ c, pm_lk (pm_mkK rows lks ra ro nw ft ec) (pm_rowM rows) cl ALL nws zs rs aos rof o.1 q.1 q.2.1 q.2.2.1 q.2.2.2.1 q.2.2.2.2) (hck : pm_ck (pm_mkK rows lks ra ro nw ft ec) cl ALL) (hbs : pm_base ALL) (hnw : pm_nwf nws) (hG : GoodIn ALL ALL) (hE : ∀ r, cl[ec]? = some r → r.1 = E ∧ E ∈ aos)
    (hr : ∀ c ∈ rows, ∀ r ∈ c, pm_rowok cl ALL lks r) (h8 : ∀ c ∈ rows, ∀ r ∈ c, pm_no8 r = true ∨ ∀ c' ∈ r.2.2.2, ∀ q ∈ c', q.2.1 = 8 → pm_m8 (pm_mkK rows lks ra ro nw ft ec) r.1.2.1 ALL zs (pm_cn lks r.2.1) r.2.1 q.1 q.2.2.1 q.2.2.2) : pm_ok (pm_mkK rows lks ra ro nw ft ec) (pm_rowM rows) cl ALL nws zs rs aos rof (pm_cn lks) E := by
  have row : ∀ {mj pc : Nat} {e : Nat × Instr × Nat}, pm_code (pm_mkK rows lks ra ro nw ft ec) mj pc = some e → ∃ r, pm_nth2 rows mj = some r ∧ pm_tl r.2.2.2 pc = some e ∧ pm_rowok cl ALL lks r := by
    intro mj pc e h
    have h1 : (match pm_nth2 rows mj with
      | some r => pm_tl r.2.2.2 pc
      | none => none) = some e := h
    cases hn : pm_nth2 rows mj with
    | none => rw [hn] at h1; cases h1
    | some r =>
      rw [hn] at h1
      obtain ⟨c, hc, hrc⟩ := pm_nth2_mem hn
      exact ⟨r, rfl, h1, hr c hc r hrc⟩
  have own : ∀ {mj : Nat} {r : pm_Row}, pm_nth2 rows mj = some r → pm_own (pm_mkK rows lks ra ro nw ft ec) mj = r.2.1 := by
    intro mj r h
    show (match pm_nth2 rows mj with
      | some r => r.2.1
      | none => 0) = _
    rw [h]
  have sig : ∀ {mj : Nat} {r : pm_Row}, pm_nth2 rows mj = some r → pm_sig (pm_mkK rows lks ra ro nw ft ec) mj = r.2.2.1 := by
    intro mj r h
    show (match pm_nth2 rows mj with
      | some r => r.2.2.1
      | none => (0, 0, 0)) = _
    rw [h]
  have eM : ∀ {mj : Nat} {r : pm_Row}, pm_nth2 rows mj = some r → pm_rowM rows mj = r.1 := by
    intro mj r h
    unfold pm_rowM
    rw [h]
  refine ⟨fun ow i kd a b v h => ?_, hck, hbs, hnw, hG, hE, fun mj pc g ins aux h => ?_, fun mj q h => ?_, fun mj pc ins aux h => ?_⟩
  · have h1 : pm_lkT lks ow i = some (kd, a, b, v) := h
    unfold pm_lkT at h1
    unfold pm_cn
    cases hn : pm_nth lks ow with
    | none => rw [hn] at h1; cases h1
    | some o =>
      rw [hn] at h1
      obtain ⟨c, hc, hq⟩ := pm_tl_mem h1
      exact hl o (pm_nth_mem hn) c hc _ hq
  · obtain ⟨r, h1, h2, h3, -⟩ := row h
    obtain ⟨c, hc, hq⟩ := pm_tl_mem h2
    obtain ⟨g1, g2, g3⟩ := h3 c hc _ hq
    rw [eM h1]
    refine ⟨g1, pm_tokB_ok g2, fun i ci k v e1 e2 C T N e3 e4 => ?_⟩
    rw [own h1] at e2 ⊢
    have e5 : pm_lkT lks r.2.1 i = some (6, ci, k, v) := e2
    obtain ⟨r2, h12, -, -, ⟨-, -, -, -, -, -, hcn⟩, -⟩ := row h
    cases h1.symm.trans h12
    subst e1
    have g4 : (bif (T k).2.2.2 then decide (r.1.1.name = "<init>") && decide (C = r.1.1.cls) else true) = true := by
      have g5 := g3
      unfold pm_finB at g5
      simp only [e5, e3] at g5
      exact g5
    rw [e4] at g4
    obtain ⟨g6, g7⟩ := pm_and g4
    exact ⟨of_decide_eq_true g6, by rw [hcn]; exact of_decide_eq_true g7⟩
  · obtain ⟨r, h1, -, -, ⟨m1, m4, m5, m6, m7, m8, m9⟩, m2, m3⟩ := row h
    rw [eM h1, sig h1, own h1]
    exact ⟨m1, m2, m3, m4, m5, m6, m7, pm_rkB_ok m8, m9⟩
  · obtain ⟨r, h1, h2, -⟩ := row h
    obtain ⟨c', hc', hq'⟩ := pm_tl_mem h2
    obtain ⟨c, hc, hrc⟩ := pm_nth2_mem h1
    rw [eM h1, own h1]
    rcases h8 c hc r hrc with h9 | h9
    · have h10 := List.all_eq_true.mp (List.all_eq_true.mp h9 c' hc') _ hq'
      cases h10
    · exact h9 c' hc' _ hq' rfl
/-! a link, by its kind -/
section PMLK
variable {K : pm_K} {M : pm_M} {cl : List vw_C} {ALL nws : List Cond} {zs : List (String × String × String × Value)} {rs : List (String × Nat × String × Nat)} {aos : List String} {rof : Nat → String × String × String} {own : String} {i a b : Nat} {v : Value}
theorem pm_lk6 {C : String} {T : u_T} {N : Nat} (h1 : cl[a]? = some (C, T, N)) (h2 : b < N) (h3 : Cond.fieldLink own i C (T b).2.1 (T b).2.2.1 ∈ ALL) : pm_lk K M cl ALL nws zs rs aos rof own i 6 a b v :=
  ⟨fun _ => ⟨C, T, N, h1, h2, h3⟩, fun q => (by cases q), fun q => (by cases q), fun q => (by cases q), fun q => (by cases q), fun q => (by cases q), fun q => (by cases q), fun q => (by cases q), fun q => (by cases q), fun q => (by cases q), fun q => (by rcases q with q | q | q <;> cases q), fun q => (by cases q), fun q => (by cases q), fun q => (by cases q), fun q => (by cases q), fun q => (by cases q), fun q => (by cases q)⟩
theorem pm_lk7 (h : Cond.fieldLink own i (rof a).1 (rof a).2.1 (rof a).2.2 ∈ ALL) : pm_lk K M cl ALL nws zs rs aos rof own i 7 a b v :=
  ⟨fun q => (by cases q), fun _ => h, fun q => (by cases q), fun q => (by cases q), fun q => (by cases q), fun q => (by cases q), fun q => (by cases q), fun q => (by cases q), fun q => (by cases q), fun q => (by cases q), fun q => (by rcases q with q | q | q <;> cases q), fun q => (by cases q), fun q => (by cases q), fun q => (by cases q), fun q => (by cases q), fun q => (by cases q), fun q => (by cases q)⟩
theorem pm_lk8 {C n d : String} (h1 : (C, n, d, v) ∈ zs) (h0 : v ≠ .ref 1048579) (h2 : Cond.fieldLink own i C n d ∈ ALL) : pm_lk K M cl ALL nws zs rs aos rof own i 8 a b v :=
  ⟨fun q => (by cases q), fun q => (by cases q), fun _ => ⟨C, n, d, h1, h0, h2⟩, fun q => (by cases q), fun q => (by cases q), fun q => (by cases q), fun q => (by cases q), fun q => (by cases q), fun q => (by cases q), fun q => (by cases q), fun q => (by rcases q with q | q | q <;> cases q), fun q => (by cases q), fun q => (by cases q), fun q => (by cases q), fun q => (by cases q), fun q => (by cases q), fun q => (by cases q)⟩
theorem pm_lk9 {C : String} {T : u_T} (h1 : cl[a]? = some (C, T, b)) (h2 : Cond.classLink own i C ∈ ALL) : pm_lk K M cl ALL nws zs rs aos rof own i 9 a b v :=
  ⟨fun q => (by cases q), fun q => (by cases q), fun q => (by cases q), fun _ => ⟨C, T, h1, h2⟩, fun q => (by cases q), fun q => (by cases q), fun q => (by cases q), fun q => (by cases q), fun q => (by cases q), fun q => (by cases q), fun q => (by rcases q with q | q | q <;> cases q), fun q => (by cases q), fun q => (by cases q), fun q => (by cases q), fun q => (by cases q), fun q => (by cases q), fun q => (by cases q)⟩
theorem pm_lk10 {x : Int32} (h : Cond.constant own i x ∈ ALL) : pm_lk K M cl ALL nws zs rs aos rof own i 10 a b (.int x) :=
  ⟨fun q => (by cases q), fun q => (by cases q), fun q => (by cases q), fun q => (by cases q), fun _ => ⟨x, rfl, h⟩, fun q => (by cases q), fun q => (by cases q), fun q => (by cases q), fun q => (by cases q), fun q => (by cases q), fun q => (by rcases q with q | q | q <;> cases q), fun q => (by cases q), fun q => (by cases q), fun q => (by cases q), fun q => (by cases q), fun q => (by cases q), fun q => (by cases q)⟩
theorem pm_lk11 {x : Int64} (h : Cond.constantLong own i x ∈ ALL) : pm_lk K M cl ALL nws zs rs aos rof own i 11 a b (.long x) :=
  ⟨fun q => (by cases q), fun q => (by cases q), fun q => (by cases q), fun q => (by cases q), fun q => (by cases q), fun _ => ⟨x, rfl, h⟩, fun q => (by cases q), fun q => (by cases q), fun q => (by cases q), fun q => (by cases q), fun q => (by rcases q with q | q | q <;> cases q), fun q => (by cases q), fun q => (by cases q), fun q => (by cases q), fun q => (by cases q), fun q => (by cases q), fun q => (by cases q)⟩
theorem pm_lk12 {tx : String} {k : Nat} (h : (own, i, tx, k) ∈ rs) : pm_lk K M cl ALL nws zs rs aos rof own i 12 a b (.ref k) :=
  ⟨fun q => (by cases q), fun q => (by cases q), fun q => (by cases q), fun q => (by cases q), fun q => (by cases q), fun q => (by cases q), fun _ => ⟨tx, k, rfl, h⟩, fun q => (by cases q), fun q => (by cases q), fun q => (by cases q), fun q => (by rcases q with q | q | q <;> cases q), fun q => (by cases q), fun q => (by cases q), fun q => (by cases q), fun q => (by cases q), fun q => (by cases q), fun q => (by cases q)⟩
theorem pm_lk13 {C : String} {T : u_T} {N : Nat} (h1 : cl[pm_eci K]? = some (C, T, N)) (h2 : C ∈ aos) (h3 : Cond.classLink own i C ∈ ALL) : pm_lk K M cl ALL nws zs rs aos rof own i 13 a b v :=
  ⟨fun q => (by cases q), fun q => (by cases q), fun q => (by cases q), fun q => (by cases q), fun q => (by cases q), fun q => (by cases q), fun q => (by cases q), fun _ => ⟨C, T, N, h1, h2, h3⟩, fun q => (by cases q), fun q => (by cases q), fun q => (by rcases q with q | q | q <;> cases q), fun q => (by cases q), fun q => (by cases q), fun q => (by cases q), fun q => (by cases q), fun q => (by cases q), fun q => (by cases q)⟩
theorem pm_lk4 (h : Cond.methodLink own i Lib.objectInit ∈ ALL) : pm_lk K M cl ALL nws zs rs aos rof own i 4 a b v :=
  ⟨fun q => (by cases q), fun q => (by cases q), fun q => (by cases q), fun q => (by cases q), fun q => (by cases q), fun q => (by cases q), fun q => (by cases q), fun q => (by cases q), fun _ => h, fun q => (by cases q), fun q => (by rcases q with q | q | q <;> cases q), fun q => (by cases q), fun q => (by cases q), fun q => (by cases q), fun q => (by cases q), fun q => (by cases q), fun q => (by cases q)⟩
theorem pm_lk5 (h : Cond.methodLink own i arraycopyName ∈ ALL) : pm_lk K M cl ALL nws zs rs aos rof own i 5 a b v :=
  ⟨fun q => (by cases q), fun q => (by cases q), fun q => (by cases q), fun q => (by cases q), fun q => (by cases q), fun q => (by cases q), fun q => (by cases q), fun q => (by cases q), fun q => (by cases q), fun _ => h, fun q => (by rcases q with q | q | q <;> cases q), fun q => (by cases q), fun q => (by cases q), fun q => (by cases q), fun q => (by cases q), fun q => (by cases q), fun q => (by cases q)⟩
theorem pm_lk1 (h : Cond.methodLink own i (M a).1 ∈ ALL ∨ ∃ h, Cond.methodLinkNest own i (M a).1 h ∈ nws) (hn : (parseMethodDescriptor (M a).1.desc).map (fun d => d.parameters.length) = some b) (hs : Cond.static (M a).1 ∈ ALL) : pm_lk K M cl ALL nws zs rs aos rof own i 1 a b v :=
  ⟨fun q => (by cases q), fun q => (by cases q), fun q => (by cases q), fun q => (by cases q), fun q => (by cases q), fun q => (by cases q), fun q => (by cases q), fun q => (by cases q), fun q => (by cases q), fun q => (by cases q), fun _ => ⟨h, hn⟩, fun _ => hs, fun q => (by cases q), fun q => (by cases q), fun q => (by cases q), fun q => (by cases q), fun q => (by cases q)⟩
theorem pm_lk2 {ci : Nat} {T : u_T} {N : Nat} (h : Cond.methodLink own i (M a).1 ∈ ALL ∨ ∃ h, Cond.methodLinkNest own i (M a).1 h ∈ nws) (hn : (parseMethodDescriptor (M a).1.desc).map (fun d => d.parameters.length) = some b) (hi : Cond.instanceMethod (M a).1 ∈ ALL) (hs : Cond.selects (M a).1.cls (M a).1 (M a).1 ∈ ALL) (hc : cl[ci]? = some ((M a).1.cls, T, N)) : pm_lk K M cl ALL nws zs rs aos rof own i 2 a b (.ref ci) :=
  ⟨fun q => (by cases q), fun q => (by cases q), fun q => (by cases q), fun q => (by cases q), fun q => (by cases q), fun q => (by cases q), fun q => (by cases q), fun q => (by cases q), fun q => (by cases q), fun q => (by cases q), fun _ => ⟨h, hn⟩, fun q => (by cases q), fun _ => ⟨hi, hs, fun ci' e => (by cases e; exact ⟨T, N, hc⟩), fun e => (by cases e)⟩, fun q => (by cases q), fun q => (by cases q), fun q => (by cases q), fun q => (by cases q)⟩
theorem pm_lk2s (h : Cond.methodLink own i (M a).1 ∈ ALL ∨ ∃ h, Cond.methodLinkNest own i (M a).1 h ∈ nws) (hn : (parseMethodDescriptor (M a).1.desc).map (fun d => d.parameters.length) = some b) (hi : Cond.instanceMethod (M a).1 ∈ ALL) (hs : Cond.selects (M a).1.cls (M a).1 (M a).1 ∈ ALL) (hc : (M a).1.cls = "java/lang/String") : pm_lk K M cl ALL nws zs rs aos rof own i 2 a b .null :=
  ⟨fun q => (by cases q), fun q => (by cases q), fun q => (by cases q), fun q => (by cases q), fun q => (by cases q), fun q => (by cases q), fun q => (by cases q), fun q => (by cases q), fun q => (by cases q), fun q => (by cases q), fun _ => ⟨h, hn⟩, fun q => (by cases q), fun _ => ⟨hi, hs, fun ci' e => (by cases e), fun _ => hc⟩, fun q => (by cases q), fun q => (by cases q), fun q => (by cases q), fun q => (by cases q)⟩
theorem pm_lk3 (h : Cond.methodLink own i (M a).1 ∈ ALL ∨ ∃ h, Cond.methodLinkNest own i (M a).1 h ∈ nws) (hn : (parseMethodDescriptor (M a).1.desc).map (fun d => d.parameters.length) = some b) (h1 : (M a).1.name = "<init>") (hi : Cond.instanceMethod (M a).1 ∈ ALL) (hr : (M a).2.2.2 = none) : pm_lk K M cl ALL nws zs rs aos rof own i 3 a b v :=
  ⟨fun q => (by cases q), fun q => (by cases q), fun q => (by cases q), fun q => (by cases q), fun q => (by cases q), fun q => (by cases q), fun q => (by cases q), fun q => (by cases q), fun q => (by cases q), fun q => (by cases q), fun _ => ⟨h, hn⟩, fun q => (by cases q), fun q => (by cases q), fun _ => ⟨h1, hi, hr⟩, fun q => (by cases q), fun q => (by cases q), fun q => (by cases q)⟩
theorem pm_lk15 (h : Cond.methodLink own i Lib.Math.max.name ∈ ALL) : pm_lk K M cl ALL nws zs rs aos rof own i 15 a b v :=
  ⟨fun q => (by cases q), fun q => (by cases q), fun q => (by cases q), fun q => (by cases q), fun q => (by cases q), fun q => (by cases q), fun q => (by cases q), fun q => (by cases q), fun q => (by cases q), fun q => (by cases q), fun q => (by rcases q with q | q | q <;> cases q), fun q => (by cases q), fun q => (by cases q), fun q => (by cases q), fun _ => h, fun q => (by cases q), fun q => (by cases q)⟩
theorem pm_lk16 (h : Cond.methodLink own i Lib.Math.min.name ∈ ALL) : pm_lk K M cl ALL nws zs rs aos rof own i 16 a b v :=
  ⟨fun q => (by cases q), fun q => (by cases q), fun q => (by cases q), fun q => (by cases q), fun q => (by cases q), fun q => (by cases q), fun q => (by cases q), fun q => (by cases q), fun q => (by cases q), fun q => (by cases q), fun q => (by rcases q with q | q | q <;> cases q), fun q => (by cases q), fun q => (by cases q), fun q => (by cases q), fun q => (by cases q), fun _ => h, fun q => (by cases q)⟩
theorem pm_lk17 (h : Cond.methodLink own i Lib.Math.abs.name ∈ ALL) : pm_lk K M cl ALL nws zs rs aos rof own i 17 a b v :=
  ⟨fun q => (by cases q), fun q => (by cases q), fun q => (by cases q), fun q => (by cases q), fun q => (by cases q), fun q => (by cases q), fun q => (by cases q), fun q => (by cases q), fun q => (by cases q), fun q => (by cases q), fun q => (by rcases q with q | q | q <;> cases q), fun q => (by cases q), fun q => (by cases q), fun q => (by cases q), fun q => (by cases q), fun q => (by cases q), fun _ => h⟩
end PMLK
