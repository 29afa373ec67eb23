/-! PM: A PURE MACHINE. Cells, frames and links as lists and numbers; one step is a function; a method's run is a relation (pm_Rd) or a function with fuel (pm_ev). -/
/-- a cell: an array (0 int, 1 boolean, 2 long, 3 byte, 4 references; its contents), or an object (its number, its fields) -/
abbrev pm_A : Type := List Int32 ⊕ List Int64 ⊕ List (Option Nat)
abbrev pm_C : Type := (Nat × pm_A) ⊕ (Nat × List Value)
abbrev pm_H : Type := List pm_C
/-- pc, locals, stack, heap, cells made, slots made -/
abbrev pm_S : Type := Nat × List (Option Value) × List Value × pm_H × Nat × Nat
/-- a method's end: its value, the heap, what it made -/
abbrev pm_R : Type := Option Value × pm_H × Nat × Nat
abbrev pm_L : Type := Nat × Nat × Nat × Value
/-- code by method and pc (group, instruction, target); owner's number; links by owner and index; a method's parameters, locals, kind of answer; fixed arrays; fixed objects; default fields; field types; the number of the references' kind -/
abbrev pm_K : Type := (Nat → Nat → Option (Nat × Instr × Nat)) × (Nat → Nat) × (Nat → Nat → Option pm_L) × (Nat → Nat × Nat × Nat) × (Nat → Option (Nat × Nat × (Nat → Value))) × (Nat → Nat → Option Value) × (Nat → List Value) × (Nat → Nat → FieldType) × Nat
def pm_code (K : pm_K) : Nat → Nat → Option (Nat × Instr × Nat) := K.1
def pm_own (K : pm_K) : Nat → Nat := K.2.1
def pm_lnk (K : pm_K) : Nat → Nat → Option pm_L := K.2.2.1
def pm_sig (K : pm_K) : Nat → Nat × Nat × Nat := K.2.2.2.1
def pm_ra (K : pm_K) : Nat → Option (Nat × Nat × (Nat → Value)) := K.2.2.2.2.1
def pm_ro (K : pm_K) : Nat → Nat → Option Value := K.2.2.2.2.2.1
def pm_new0 (K : pm_K) : Nat → List Value := K.2.2.2.2.2.2.1
def pm_fty (K : pm_K) : Nat → Nat → FieldType := K.2.2.2.2.2.2.2.1
def pm_eci (K : pm_K) : Nat := K.2.2.2.2.2.2.2.2
def pm_at (ph : pm_H) (a : Nat) : Option pm_C := bif Nat.blt a 1048576 then ph[a]? else none
def pm_rat (K : pm_K) (a : Nat) : Option (Nat × Nat × (Nat → Value)) := bif Nat.blt a 1048576 then none else pm_ra K (a - 1048576)
/-- what an array holds at an index, and what it is with another thing there -/
def pm_ix {α : Type} (l : List α) (i : Int32) : Option α := bif decide (i < 0) then none else l[i.toNatClampNeg]?
def pm_up {α : Type} (l : List α) (i : Int32) (x : α) : Option (List α) := match pm_ix l i with
  | some _ => some (l.set i.toNatClampNeg x)
  | none => none
def pm_cpy {α : Type} (l m : List α) (sp dp n : Nat) : List α := m.take dp ++ ((l.drop sp).take n ++ m.drop (dp + n))
def pm_inb (i : Int32) (n : Nat) : Bool := bif decide (i < 0) then false else Nat.blt i.toNatClampNeg n
/-- may a variable of the type hold it, whole -/
def pm_fit (ty : FieldType) (v : Value) : Bool := match ty, v with
  | .int, .int _ => true
  | .long, .long _ => true
  | .boolean, .int x => bif decide (x = 0) then true else decide (x = 1)
  | .object _, .ref _ => true
  | .object _, .null => true
  | .array _, .ref _ => true
  | .array _, .null => true
  | _, _ => false
def pm_rv (r : Option Nat) : Value := match r with
  | some a => .ref a
  | none => .null
/-! group 0: the stack alone, one byte -/
def pm_alu (ins : Instr) (st : List Value) : Option (List Value) := match ins, st with
  | .iconst n, r => some (.int (Int32.ofInt n) :: r)
  | .lconst n, r => some (.long (Int64.ofNat (n : Nat)) :: r)
  | .aconst_null, r => some (.null :: r)
  | .iadd, .int y :: .int x :: r => some (.int (x + y) :: r)
  | .isub, .int y :: .int x :: r => some (.int (x - y) :: r)
  | .imul, .int y :: .int x :: r => some (.int (x * y) :: r)
  | .iand, .int y :: .int x :: r => some (.int (x &&& y) :: r)
  | .ior, .int y :: .int x :: r => some (.int (x ||| y) :: r)
  | .ixor, .int y :: .int x :: r => some (.int (x ^^^ y) :: r)
  | .idiv, .int y :: .int x :: r => bif decide (y = 0) then none else some (.int (x / y) :: r)
  | .irem, .int y :: .int x :: r => bif decide (y = 0) then none else some (.int (x - x / y * y) :: r)
  | .ineg, .int x :: r => some (.int (-x) :: r)
  | .ishl, .int y :: .int x :: r => some (.int (x <<< (y &&& 31)) :: r)
  | .ishr, .int y :: .int x :: r => some (.int (x >>> (y &&& 31)) :: r)
  | .iushr, .int y :: .int x :: r => some (.int (x.toUInt32 >>> (y.toUInt32 &&& Int32.toUInt32 31)).toInt32 :: r)
  | .ladd, .long y :: .long x :: r => some (.long (x + y) :: r)
  | .lsub, .long y :: .long x :: r => some (.long (x - y) :: r)
  | .lmul, .long y :: .long x :: r => some (.long (x * y) :: r)
  | .land, .long y :: .long x :: r => some (.long (x &&& y) :: r)
  | .lor, .long y :: .long x :: r => some (.long (x ||| y) :: r)
  | .lxor, .long y :: .long x :: r => some (.long (x ^^^ y) :: r)
  | .ldiv, .long y :: .long x :: r => bif decide (y = 0) then none else some (.long (x / y) :: r)
  | .lrem, .long y :: .long x :: r => bif decide (y = 0) then none else some (.long (x - x / y * y) :: r)
  | .lneg, .long x :: r => some (.long (-x) :: r)
  | .lshl, .int y :: .long x :: r => some (.long (x <<< (y.toInt64 &&& 63)) :: r)
  | .lshr, .int y :: .long x :: r => some (.long (x >>> (y.toInt64 &&& 63)) :: r)
  | .lushr, .int y :: .long x :: r => some (.long (x.toUInt64 >>> (y.toInt64.toUInt64 &&& Int64.toUInt64 63)).toInt64 :: r)
  | .lcmp, .long y :: .long x :: r => some (.int (lg_cmp x y) :: r)
  | .i2l, .int x :: r => some (.long x.toInt64 :: r)
  | .l2i, .long x :: r => some (.int x.toInt32 :: r)
  | .i2b, .int x :: r => some (.int x.toInt8.toInt32 :: r)
  | .i2s, .int x :: r => some (.int x.toInt16.toInt32 :: r)
  | .i2c, .int x :: r => some (.int (x.toUInt32 % 65536).toInt32 :: r)
  | .dup, v :: r => bif Nat.beq v.category 1 then some (v :: v :: r) else none
  | .pop, v :: r => bif Nat.beq v.category 1 then some r else none
  | .dup_x1, v :: w :: r => bif Nat.beq v.category 1 && Nat.beq w.category 1 then some (v :: w :: v :: r) else none
  | .dup_x2, v :: w :: x :: r => bif Nat.beq v.category 1 && (Nat.beq w.category 1 && Nat.beq x.category 1) then some (v :: w :: x :: v :: r) else none
  | .dup2, v :: r => bif Nat.beq v.category 2 then some (v :: v :: r) else match r with
      | w :: q => bif Nat.beq v.category 1 && Nat.beq w.category 1 then some (v :: w :: v :: w :: q) else none
      | [] => none
  | .pop2, v :: r => bif Nat.beq v.category 2 then some r else none
  | _, _ => none
/-! group 1: constants of more bytes -/
def pm_push (K : pm_K) (ow : Nat) (ins : Instr) : Option (Value × Nat) := match ins with
  | .bipush n => some (.int (Int8.ofInt n).toInt32, 2)
  | .sipush n => some (.int (Int16.ofInt n).toInt32, 3)
  | .ldc i => match pm_lnk K ow i with
      | some (10, _, _, v) => some (v, 2)
      | some (12, _, _, v) => some (v, 2)
      | _ => none
  | .ldc_w i => match pm_lnk K ow i with
      | some (10, _, _, v) => some (v, 3)
      | some (12, _, _, v) => some (v, 3)
      | _ => none
  | .ldc2_w i => match pm_lnk K ow i with
      | some (11, _, _, v) => some (v, 3)
      | _ => none
  | .getstatic i => match pm_lnk K ow i with
      | some (8, _, _, v) => some (v, 3)
      | _ => none
  | _ => none
/-! group 2: a variable is read -/
def pm_load (ins : Instr) (L : List (Option Value)) : Option (Value × Nat) := match ins with
  | .iload_n k => match L[(k : Nat)]? with
      | some (some (.int x)) => some (.int x, 1)
      | _ => none
  | .iload i => match L[i]? with
      | some (some (.int x)) => some (.int x, 2)
      | _ => none
  | .lload_n k => match L[(k : Nat)]? with
      | some (some (.long x)) => some (.long x, 1)
      | _ => none
  | .lload i => match L[i]? with
      | some (some (.long x)) => some (.long x, 2)
      | _ => none
  | .aload_n k => match L[(k : Nat)]? with
      | some (some (.ref x)) => some (.ref x, 1)
      | some (some .null) => some (.null, 1)
      | _ => none
  | .aload i => match L[i]? with
      | some (some (.ref x)) => some (.ref x, 2)
      | some (some .null) => some (.null, 2)
      | _ => none
  | _ => none
/-! group 3: a variable is written -/
def pm_set (L : List (Option Value)) (i : Nat) (v : Value) : List (Option Value) := match i with
  | 0 => L.set 0 (some v)
  | j + 1 => match L[j]? with
      | some (some (.long _)) => (L.set (j + 1) (some v)).set j none
      | some (some (.double _)) => (L.set (j + 1) (some v)).set j none
      | _ => L.set (j + 1) (some v)
def pm_store (ins : Instr) (L : List (Option Value)) (st : List Value) : Option (List (Option Value) × List Value × Nat) := match ins, st with
  | .istore_n k, .int x :: r => bif Nat.blt (k : Nat) L.length then some (pm_set L k (.int x), r, 1) else none
  | .istore i, .int x :: r => bif Nat.blt i L.length then some (pm_set L i (.int x), r, 2) else none
  | .lstore_n k, .long x :: r => bif Nat.blt ((k : Nat) + 1) L.length then some ((pm_set L k (.long x)).set ((k : Nat) + 1) none, r, 1) else none
  | .lstore i, .long x :: r => bif Nat.blt (i + 1) L.length then some ((pm_set L i (.long x)).set (i + 1) none, r, 2) else none
  | .astore_n k, .ref x :: r => bif Nat.blt (k : Nat) L.length then some (pm_set L k (.ref x), r, 1) else none
  | .astore i, .ref x :: r => bif Nat.blt i L.length then some (pm_set L i (.ref x), r, 2) else none
  | .iinc i n, r => match L[i]? with
      | some (some (.int x)) => bif Nat.blt i L.length then some (pm_set L i (.int (x + Int32.ofInt n)), r, 3) else none
      | _ => none
  | _, _ => none
/-! group 4: branches; aux is the target -/
def pm_tgt (pc : Nat) (off : Int) : Option Nat := match (pc : Int) + off with
  | .ofNat t => some t
  | .negSucc _ => none
def pm_br (ins : Instr) (aux pc : Nat) (st : List Value) : Option (Nat × List Value) := match ins, st with
  | .ifCond .eq _, .int x :: r => some (bif decide (x = 0) then aux else pc + 3, r)
  | .ifCond .ne _, .int x :: r => some (bif decide (x = 0) then pc + 3 else aux, r)
  | .ifCond .lt _, .int x :: r => some (bif decide (x < 0) then aux else pc + 3, r)
  | .ifCond .ge _, .int x :: r => some (bif decide (0 ≤ x) then aux else pc + 3, r)
  | .ifCond .gt _, .int x :: r => some (bif decide (0 < x) then aux else pc + 3, r)
  | .ifCond .le _, .int x :: r => some (bif decide (x ≤ 0) then aux else pc + 3, r)
  | .if_icmp .eq _, .int y :: .int x :: r => some (bif decide (x = y) then aux else pc + 3, r)
  | .if_icmp .ne _, .int y :: .int x :: r => some (bif decide (x = y) then pc + 3 else aux, r)
  | .if_icmp .lt _, .int y :: .int x :: r => some (bif decide (x < y) then aux else pc + 3, r)
  | .if_icmp .ge _, .int y :: .int x :: r => some (bif decide (y ≤ x) then aux else pc + 3, r)
  | .if_icmp .gt _, .int y :: .int x :: r => some (bif decide (y < x) then aux else pc + 3, r)
  | .if_icmp .le _, .int y :: .int x :: r => some (bif decide (x ≤ y) then aux else pc + 3, r)
  | .goto _, r => some (aux, r)
  | .tableswitch d lo hi offs, .int x :: r => bif decide (x.toInt < lo) || decide (hi < x.toInt) then (match pm_tgt pc d with
        | some t => some (t, r)
        | none => none)
      else (match offs[(x.toInt - lo).toNat]? with
        | some o => (match pm_tgt pc o with
            | some t => some (t, r)
            | none => none)
        | none => none)
  | .lookupswitch d ps, .int x :: r => bif (ps.toList.zip (ps.toList.drop 1)).all (fun (a, next) => a.1 < next.1) then (match pm_tgt pc (Op.lookupswitch.offset ps.toList d x.toInt) with
        | some t => some (t, r)
        | none => none)
      else none
  | _, _ => none
/-! group 5: the heap; an instruction's length, the stack, the heap, what was made -/
def pm_blank (t : ArrayType) (n : Nat) : Option pm_C := match t with
  | .int => some (.inl (0, .inl (List.replicate n 0)))
  | .boolean => some (.inl (1, .inl (List.replicate n 0)))
  | .long => some (.inl (2, .inr (.inl (List.replicate n 0))))
  | _ => none
def pm_mem (K : pm_K) (al : Bool) (ow : Nat) (ins : Instr) (st : List Value) (ph : pm_H) : Option (Nat × List Value × pm_H × Nat × Nat) := match ins, st with
  | .getfield i, .ref a :: r => match pm_lnk K ow i with
      | some (6, ci, k, _) => (match pm_at ph a with
          | some (.inr (cj, fs)) => bif Nat.beq ci cj then (match fs[k]? with
              | some v => some (3, v :: r, ph, 0, 0)
              | none => none) else none
          | _ => none)
      | some (7, j, _, _) => bif Nat.blt a 1048576 then none else (match pm_ro K (a - 1048576) j with
          | some v => some (3, v :: r, ph, 0, 0)
          | none => none)
      | _ => none
  | .putfield i, v :: .ref a :: r => match pm_lnk K ow i with
      | some (6, ci, k, _) => (match pm_at ph a with
          | some (.inr (cj, fs)) => bif Nat.beq ci cj && (pm_fit (pm_fty K ci k) v && Nat.blt k fs.length) then some (3, r, ph.set a (.inr (cj, fs.set k v)), 0, 0) else none
          | _ => none)
      | _ => none
  | .arraylength, .ref a :: r => match pm_at ph a with
      | some (.inl (t, .inl l)) => bif Nat.ble t 4 then some (1, .int (Int32.ofNat l.length) :: r, ph, 0, 0) else none
      | some (.inl (t, .inr (.inl l))) => bif Nat.ble t 4 then some (1, .int (Int32.ofNat l.length) :: r, ph, 0, 0) else none
      | some (.inl (t, .inr (.inr l))) => bif Nat.ble t 4 then some (1, .int (Int32.ofNat l.length) :: r, ph, 0, 0) else none
      | some (.inr _) => none
      | none => (match pm_rat K a with
          | some (_, n, _) => some (1, .int (Int32.ofNat n) :: r, ph, 0, 0)
          | none => none)
  | .iaload, .int i :: .ref a :: r => match pm_at ph a with
      | some (.inl (0, .inl l)) => (match pm_ix l i with
          | some x => some (1, .int x :: r, ph, 0, 0)
          | none => none)
      | some _ => none
      | none => (match pm_rat K a with
          | some (0, n, f) => bif pm_inb i n then some (1, f i.toNatClampNeg :: r, ph, 0, 0) else none
          | _ => none)
  | .baload, .int i :: .ref a :: r => match pm_at ph a with
      | some (.inl (1, .inl l)) => (match pm_ix l i with
          | some x => some (1, .int x :: r, ph, 0, 0)
          | none => none)
      | some _ => none
      | none => (match pm_rat K a with
          | some (3, n, f) => bif pm_inb i n then some (1, f i.toNatClampNeg :: r, ph, 0, 0) else none
          | _ => none)
  | .laload, .int i :: .ref a :: r => match pm_at ph a with
      | some (.inl (2, .inr (.inl l))) => (match pm_ix l i with
          | some x => some (1, .long x :: r, ph, 0, 0)
          | none => none)
      | _ => none
  | .aaload, .int i :: .ref a :: r => match pm_at ph a with
      | some (.inl (4, .inr (.inr l))) => (match pm_ix l i with
          | some x => some (1, pm_rv x :: r, ph, 0, 0)
          | none => none)
      | _ => none
  | .iastore, .int x :: .int i :: .ref a :: r => match pm_at ph a with
      | some (.inl (0, .inl l)) => (match pm_up l i x with
          | some l' => some (1, r, ph.set a (.inl (0, .inl l')), 0, 0)
          | none => none)
      | _ => none
  | .bastore, .int x :: .int i :: .ref a :: r => match pm_at ph a with
      | some (.inl (1, .inl l)) => (match pm_up l i (x &&& 1) with
          | some l' => some (1, r, ph.set a (.inl (1, .inl l')), 0, 0)
          | none => none)
      | _ => none
  | .lastore, .long x :: .int i :: .ref a :: r => match pm_at ph a with
      | some (.inl (2, .inr (.inl l))) => (match pm_up l i x with
          | some l' => some (1, r, ph.set a (.inl (2, .inr (.inl l'))), 0, 0)
          | none => none)
      | _ => none
  | .aastore, .ref v :: .int i :: .ref a :: r => match pm_at ph a with
      | some (.inl (4, .inr (.inr l))) => (match pm_at ph v with
          | some (.inr (ci, _)) => (match pm_up l i (some v) with
              | some l' => bif Nat.beq ci (pm_eci K) then some (1, r, ph.set a (.inl (4, .inr (.inr l'))), 0, 0) else none
              | none => none)
          | _ => none)
      | _ => none
  | .new i, r => match pm_lnk K ow i with
      | some (9, ci, n, _) => bif al && Nat.blt ph.length 1048575 then some (3, .ref ph.length :: r, ph ++ [.inr (ci, pm_new0 K ci)], 1, n) else none
      | _ => none
  | .newarray t, .int n :: r => bif decide (n < 0) then none else (match pm_blank t n.toNatClampNeg with
      | some c => bif al && (Nat.blt ph.length 1048575 && Nat.ble n.toNatClampNeg 1000000) then some (2, .ref ph.length :: r, ph ++ [c], 1, n.toNatClampNeg) else none
      | none => none)
  | .anewarray i, .int n :: r => bif decide (n < 0) then none else (match pm_lnk K ow i with
      | some (9, ci, _, _) => bif (al && Nat.beq ci (pm_eci K)) && (Nat.blt ph.length 1048575 && Nat.ble n.toNatClampNeg 1000000) then some (3, .ref ph.length :: r, ph ++ [.inl (4, .inr (.inr (List.replicate n.toNatClampNeg none)))], 1, n.toNatClampNeg) else none
      | _ => none)
  | .invokespecial i, .ref _ :: r => match pm_lnk K ow i with
      | some (4, _, _, _) => bif Nat.ble (r.map fun v => v.category).sum 8 then some (3, r, ph, 0, 0) else none
      | _ => none
  | .invokestatic i, s0 => match pm_lnk K ow i with
      | some (5, _, _, _) => (match s0 with
          | .int n :: .int dp :: .ref b :: .int sp :: .ref a :: r => (match pm_at ph a, pm_at ph b with
              | some (.inl (0, .inl f)), some (.inl (0, .inl g)) =>
                  bif !al && ((!decide (sp < 0) && (!decide (dp < 0) && !decide (n < 0))) && ((Nat.ble (sp.toNatClampNeg + n.toNatClampNeg) f.length && Nat.ble (dp.toNatClampNeg + n.toNatClampNeg) g.length) && Nat.ble (r.map fun v => v.category).sum 8)) then
                    some (3, r, ph.set b (.inl (0, .inl (pm_cpy f g sp.toNatClampNeg dp.toNatClampNeg n.toNatClampNeg))), 0, 0) else none
              | _, _ => none)
          | _ => none)
      | some (15, _, _, _) => (match s0 with
          | .int y :: .int x :: r => bif Nat.ble (r.map fun v => v.category).sum 8 then some (3, .int (if x < y then y else x) :: r, ph, 0, 0) else none
          | _ => none)
      | some (16, _, _, _) => (match s0 with
          | .int y :: .int x :: r => bif Nat.ble (r.map fun v => v.category).sum 8 then some (3, .int (if y < x then y else x) :: r, ph, 0, 0) else none
          | _ => none)
      | some (17, _, _, _) => (match s0 with
          | .int x :: r => bif Nat.ble (r.map fun v => v.category).sum 8 then some (3, .int (if 0 ≤ x then x else 0 - x) :: r, ph, 0, 0) else none
          | _ => none)
      | _ => none
  | _, _ => none
/-! group 6: calls: the method, its arguments, the stack left -/
def pm_inv (K : pm_K) (ow : Nat) (ins : Instr) (st : List Value) (ph : pm_H) : Option (Nat × List Value × List Value) := match ins with
  | .invokestatic i => match pm_lnk K ow i with
      | some (1, j, n, _) => bif Nat.ble n st.length && Nat.ble ((st.drop n).map fun v => v.category).sum 8 then some (j, (st.take n).reverse, st.drop n) else none
      | _ => none
  | .invokevirtual i => match pm_lnk K ow i with
      | some (2, j, n, .ref ci) => (match st.drop n with
          | .ref a :: r => (match pm_at ph a with
              | some (.inr (cj, _)) => bif Nat.beq ci cj && Nat.ble (r.map fun v => v.category).sum 8 then some (j, .ref a :: (st.take n).reverse, r) else none
              | _ => none)
          | _ => none)
      | some (2, j, n, .null) => (match st.drop n with
          | .ref a :: r => bif Nat.blt a 1048576 then none else (match pm_ro K (a - 1048576) 0 with
              | some _ => bif Nat.ble (r.map fun v => v.category).sum 8 then some (j, .ref a :: (st.take n).reverse, r) else none
              | none => none)
          | _ => none)
      | _ => none
  | .invokespecial i => match pm_lnk K ow i with
      | some (3, j, n, _) => (match st.drop n with
          | .ref a :: r => bif Nat.ble (r.map fun v => v.category).sum 8 then some (j, .ref a :: (st.take n).reverse, r) else none
          | _ => none)
      | _ => none
  | _ => none
/-! group 8: a static that is carried into a call alone (getstatic, invokestatic aux), of 0 <= i < n -/
def pm_mac (K : pm_K) (ow aux : Nat) (st : List Value) (ph : pm_H) : Option (Nat × List Value × List Value) := match st with
  | .int n :: .int i :: r => bif !decide (i < 0) && decide (i < n) then pm_inv K ow (.invokestatic aux) (.null :: .int n :: .int i :: r) ph else none
  | _ => none
/-! group 7: the end; kinds of answer: 0 none, 1 int, 2 boolean, 3 long, 4 reference, 5 char, 6 byte -/
def pm_ret (kd : Nat) (ins : Instr) (st : List Value) : Option (Option Value) := match ins, st with
  | .return_, [] => bif Nat.beq kd 0 then some none else none
  | .ireturn, [.int x] => bif Nat.beq kd 1 then some (some (.int x)) else bif Nat.beq kd 2 && (bif decide (x = 0) then true else decide (x = 1)) then some (some (.int x)) else bif Nat.beq kd 5 && decide (x.toUInt32.toUInt16.toUInt32.toInt32 = x) then some (some (.int x)) else bif Nat.beq kd 6 && decide (x.toInt8.toInt32 = x) then some (some (.int x)) else none
  | .lreturn, [.long x] => bif Nat.beq kd 3 then some (some (.long x)) else none
  | .areturn, [.ref a] => bif Nat.beq kd 4 then some (some (.ref a)) else none
  | .areturn, [.null] => bif Nat.beq kd 4 then some (some .null) else none
  | _, _ => none
/-- what a step comes to: the next state, a call (with the state behind it, without the answer), or the end -/
abbrev pm_O : Type := pm_S ⊕ (Nat × List Value × pm_S) ⊕ Option Value
def pm_step (K : pm_K) (al : Bool) (mj : Nat) (x : pm_S) : Option pm_O := match x with
  | (pc, L, st, ph, cs, ss) => match pm_code K mj pc with
    | none => none
    | some (g, ins, aux) => match g with
      | 0 => (match pm_alu ins st with
          | some st' => some (.inl (pc + 1, L, st', ph, cs, ss))
          | none => none)
      | 1 => (match pm_push K (pm_own K mj) ins with
          | some (v, n) => some (.inl (pc + n, L, v :: st, ph, cs, ss))
          | none => none)
      | 2 => (match pm_load ins L with
          | some (v, n) => some (.inl (pc + n, L, v :: st, ph, cs, ss))
          | none => none)
      | 3 => (match pm_store ins L st with
          | some (L', st', n) => some (.inl (pc + n, L', st', ph, cs, ss))
          | none => none)
      | 4 => (match pm_br ins aux pc st with
          | some (pc', st') => some (.inl (pc', L, st', ph, cs, ss))
          | none => none)
      | 5 => (match pm_mem K al (pm_own K mj) ins st ph with
          | some (n, st', ph', c1, s1) => some (.inl (pc + n, L, st', ph', cs + c1, ss + s1))
          | none => none)
      | 6 => (match pm_inv K (pm_own K mj) ins st ph with
          | some (j, as, r) => some (.inr (.inl (j, as, (pc + 3, L, r, ph, cs, ss))))
          | none => none)
      | 7 => (match pm_ret (pm_sig K mj).2.2 ins st with
          | some v => some (.inr (.inr v))
          | none => none)
      | 8 => (match pm_mac K (pm_own K mj) aux st ph with
          | some (j, as, r) => some (.inr (.inl (j, as, (pc + 6, L, r, ph, cs, ss))))
          | none => none)
      | _ => none
def pm_sl (vs : List Value) : List (Option Value) := match vs with
  | [] => []
  | v :: t => match v with
      | .long x => some (.long x) :: none :: pm_sl t
      | .double x => some (.double x) :: none :: pm_sl t
      | w => some w :: pm_sl t
def pm_ent (K : pm_K) (mj : Nat) (as : List Value) (ph : pm_H) : pm_S := (0, pm_sl as ++ List.replicate ((pm_sig K mj).2.1 - (pm_sl as).length) none, [], ph, 0, 0)
def pm_entB (K : pm_K) (mj : Nat) (as : List Value) : Bool := Nat.ble (pm_sl as).length (pm_sig K mj).2.1
/-- n steps at most, calls by C, the end r -/
def pm_Tn (K : pm_K) (al : Bool) (C : Nat → List Value → pm_H → pm_R → Prop) (mj : Nat) : Nat → pm_S → pm_R → Prop
  | 0, _, _ => False
  | n + 1, x, r => match pm_step K al mj x with
      | none => False
      | some (.inl x') => pm_Tn K al C mj n x' r
      | some (.inr (.inl (j, as, (pc, L, st, ph, cs, ss)))) => ∃ (v : Option Value) (ph' : pm_H) (c1 s1 : Nat), C j as ph (v, ph', c1, s1) ∧ pm_Tn K al C mj n (pc, L, v.toList ++ st, ph', cs + c1, ss + s1) r
      | some (.inr (.inr v)) => r = (v, x.2.2.2)
/-- a method's run, calls at most d deep -/
def pm_Rd (K : pm_K) (al : Bool) : Nat → Nat → List Value → pm_H → pm_R → Prop
  | 0, _, _, _, _ => False
  | d + 1, mj, as, ph, r => pm_entB K mj as = true ∧ ∃ n, pm_Tn K al (pm_Rd K al d) mj n (pm_ent K mj as ph) r
/-- the same with fuel -/
def pm_run (K : pm_K) (al : Bool) (C : Nat → List Value → pm_H → Option pm_R) (mj : Nat) : Nat → pm_S → Option pm_R
  | 0, _ => none
  | n + 1, x => match pm_step K al mj x with
      | none => none
      | some (.inl x') => pm_run K al C mj n x'
      | some (.inr (.inl (j, as, (pc, L, st, ph, cs, ss)))) => (match C j as ph with
          | none => none
          | some (v, ph', c1, s1) => pm_run K al C mj n (pc, L, v.toList ++ st, ph', cs + c1, ss + s1))
      | some (.inr (.inr v)) => some (v, x.2.2.2)
def pm_ev (K : pm_K) (al : Bool) (F : Nat) : Nat → Nat → List Value → pm_H → Option pm_R
  | 0, _, _, _ => none
  | d + 1, mj, as, ph => bif pm_entB K mj as then pm_run K al (pm_ev K al F d) mj F (pm_ent K mj as ph) else none
theorem pm_run_T (K : pm_K) (al : Bool) {C : Nat → List Value → pm_H → Option pm_R} {C' : Nat → List Value → pm_H → pm_R → Prop} (hC : ∀ j as ph r, C j as ph = some r → C' j as ph r) (mj : Nat) : ∀ (n : Nat) (x : pm_S) (r : pm_R), pm_run K al C mj n x = some r → pm_Tn K al C' mj n x r := by
  intro n
  induction n with
  | zero => intro x r h; simp [pm_run] at h
  | succ n ih =>
    intro x r h
    rw [pm_run] at h
    rw [pm_Tn]
    split at h
    · cases h
    · next x' hx => exact ih _ _ h
    · next j as pc L st ph cs ss hx =>
      split at h
      · cases h
      · next v ph' c1 s1 hc => exact ⟨v, ph', c1, s1, hC _ _ _ _ hc, ih _ _ h⟩
    · next v hx => cases h; rfl
theorem pm_ev_R (K : pm_K) (al : Bool) (F : Nat) : ∀ (d mj : Nat) (as : List Value) (ph : pm_H) (r : pm_R), pm_ev K al F d mj as ph = some r → pm_Rd K al d mj as ph r := by
  intro d
  induction d with
  | zero => intro mj as ph r h; simp [pm_ev] at h
  | succ d ih =>
    intro mj as ph r h
    rw [pm_ev] at h
    cases hb : pm_entB K mj as with
    | false => rw [hb] at h; cases h
    | true =>
      rw [hb] at h
      exact ⟨hb, F, pm_run_T K al ih mj F _ _ h⟩
