/-! the instructions of a method, checked in one walk over its bytes; printed by wip/rel/dec.py -/
def dk_at (b : ByteArray) (p v : Nat) : Prop := ∃ x : UInt8, b.data.toList[p]? = some x ∧ x.toNat = v
theorem dk_u1 {b : ByteArray} {p v : Nat} (h : dk_at b p v) : (Jvm.ClassFile.Reader.u1 : Jvm.ClassFile.Decoder Nat) b p = .ok (v, p + 1) := by
  obtain ⟨x, hx, rfl⟩ := h
  obtain ⟨hl, he⟩ := List.getElem?_eq_some_iff.mp hx
  have hlt : p < b.size := hl
  have e : b[p]'hlt = x := he
  unfold Jvm.ClassFile.Reader.u1
  show (dite (p < b.size) (fun h => (do set (p + 1); Pure.pure (b[p]'h).toNat : Jvm.ClassFile.Decoder Nat)) (fun _ => throw (Jvm.ClassFile.HasTruncated.truncated p))) b p = _
  rw [dif_pos hlt]
  show (Except.ok ((b[p]'hlt).toNat, p + 1) : Except Jvm.ClassFile.DecodeError (Nat × Nat)) = _
  rw [e]
theorem dk_bind {α β : Type} {m : Jvm.ClassFile.Decoder α} {f : α → Jvm.ClassFile.Decoder β} {b : ByteArray} {p p' : Nat} {a : α} (h : m b p = .ok (a, p')) : (m >>= f) b p = f a b p' := by
  show Except.bind (m b p) _ = _
  rw [h]
  rfl
theorem dk_map {α β : Type} {m : Jvm.ClassFile.Decoder α} {f : α → β} {b : ByteArray} {p p' : Nat} {a : α} (h : m b p = .ok (a, p')) : (f <$> m) b p = .ok (f a, p') := by
  show Except.bind (m b p) _ = _
  rw [h]
  rfl
theorem dk_u2 {b : ByteArray} {p x y : Nat} (h1 : dk_at b p x) (h2 : dk_at b (p + 1) y) : (Jvm.ClassFile.Reader.u2 : Jvm.ClassFile.Decoder Nat) b p = .ok (x * 256 + y, p + 2) := (dk_bind (dk_u1 h1)).trans ((dk_bind (dk_u1 h2)).trans rfl)
theorem dk_s1 {b : ByteArray} {p x : Nat} (h1 : dk_at b p x) : (Jvm.ClassFile.Reader.s1 : Jvm.ClassFile.Decoder Int) b p = .ok (Jvm.ClassFile.Reader.signed 8 x, p + 1) := dk_map (dk_u1 h1)
theorem dk_s2 {b : ByteArray} {p x y : Nat} (h1 : dk_at b p x) (h2 : dk_at b (p + 1) y) : (Jvm.ClassFile.Reader.s2 : Jvm.ClassFile.Decoder Int) b p = .ok (Jvm.ClassFile.Reader.signed 16 (x * 256 + y), p + 2) := dk_map (dk_u2 h1 h2)
def dkT : { T : Nat → Nat → Jvm.ClassFile.Decoder Instr // ∀ pc, Jvm.ClassFile.Decoder.instr pc = Jvm.ClassFile.Reader.u1 >>= T pc } := ⟨_, fun _ => rfl⟩
theorem dk_dec {b : ByteArray} {pc op n : Nat} {ins : Instr} (h : dk_at b pc op) (h2 : dkT.1 pc op b (pc + 1) = .ok (ins, n)) : decode b pc = .ok (ins, n - pc) := by
  have e : Jvm.ClassFile.Decoder.instr pc b pc = .ok (ins, n) := by
    rw [dkT.2 pc]
    exact (dk_bind (dk_u1 h)).trans h2
  show Except.bind (Jvm.ClassFile.Decoder.instr pc b pc) _ = _
  rw [e]
  rfl
theorem dk_d {L : List UInt8} {p : Nat} {c : UInt8} {l : List UInt8} (h : L.drop p = c :: l) : L[p]? = some c ∧ L.drop (p + 1) = l := by
  constructor
  · have e := congrArg List.head? h
    rw [List.head?_drop] at e
    exact e
  · have e := congrArg List.tail h
    rw [List.tail_drop] at e
    exact e
def dk1 (l : List UInt8) (op o i : Nat) : Bool := Nat.beq op o && (match l with
  | x :: _ => Nat.beq x.toNat i
  | _ => false)
def dk2 (l : List UInt8) (op o i : Nat) : Bool := Nat.beq op o && (match l with
  | x :: y :: _ => Nat.beq (x.toNat * 256 + y.toNat) i
  | _ => false)
def dks1 (l : List UInt8) (op o : Nat) (v : Int) : Bool := Nat.beq op o && (match l with
  | x :: _ => decide (Jvm.ClassFile.Reader.signed 8 x.toNat = v)
  | _ => false)
def dks2 (l : List UInt8) (op o : Nat) (v : Int) : Bool := Nat.beq op o && (match l with
  | x :: y :: _ => decide (Jvm.ClassFile.Reader.signed 16 (x.toNat * 256 + y.toNat) = v)
  | _ => false)
def dki (l : List UInt8) (op i : Nat) (v : Int) : Bool := Nat.beq op 132 && (match l with
  | x :: y :: _ => Nat.beq x.toNat i && decide (Jvm.ClassFile.Reader.signed 8 y.toNat = v)
  | _ => false)
section DKR
variable {b : ByteArray} {pc op o : Nat} {ins : Instr} {l : List UInt8} {c : UInt8}
theorem dk_r0 (d0 : dk_at b pc op) (e : dkT.1 pc o = Pure.pure ins) (h : Nat.beq op o = true) : decode b pc = .ok (ins, 1) := by
  obtain rfl := Nat.eq_of_beq_eq_true h
  have g := dk_dec (n := pc + 1) d0 (by rw [e]; rfl)
  rwa [Nat.add_sub_cancel_left] at g
theorem dk_r1 {g : Nat → Instr} {i : Nat} (hd : b.data.toList.drop pc = c :: l) (e : dkT.1 pc o = (Jvm.ClassFile.Reader.u1 >>= fun i => Pure.pure (g i))) (h : dk1 l c.toNat o i = true) : decode b pc = .ok (g i, 2) := by
  obtain ⟨h1, h2⟩ := Bool.and_eq_true_iff.mp h
  have h3 := Nat.eq_of_beq_eq_true h1
  cases l with
  | nil => cases h2
  | cons x r =>
    obtain rfl := Nat.eq_of_beq_eq_true h2
    obtain ⟨a1, a2⟩ := dk_d hd
    obtain ⟨a3, -⟩ := dk_d a2
    have g := dk_dec (n := pc + 2) ⟨c, a1, h3⟩ (by rw [e]; exact dk_bind (dk_u1 ⟨x, a3, rfl⟩))
    rwa [Nat.add_sub_cancel_left] at g
theorem dk_rs1 {g : Int → Instr} {i : Int} (hd : b.data.toList.drop pc = c :: l) (e : dkT.1 pc o = (Jvm.ClassFile.Reader.s1 >>= fun i => Pure.pure (g i))) (h : dks1 l c.toNat o i = true) : decode b pc = .ok (g i, 2) := by
  obtain ⟨h1, h2⟩ := Bool.and_eq_true_iff.mp h
  have h3 := Nat.eq_of_beq_eq_true h1
  cases l with
  | nil => cases h2
  | cons x r =>
    obtain rfl := of_decide_eq_true h2
    obtain ⟨a1, a2⟩ := dk_d hd
    obtain ⟨a3, -⟩ := dk_d a2
    have g := dk_dec (n := pc + 2) ⟨c, a1, h3⟩ (by rw [e]; exact dk_bind (dk_s1 ⟨x, a3, rfl⟩))
    rwa [Nat.add_sub_cancel_left] at g
theorem dk_r2 {g : Nat → Instr} {i : Nat} (hd : b.data.toList.drop pc = c :: l) (e : dkT.1 pc o = (Jvm.ClassFile.Reader.u2 >>= fun i => Pure.pure (g i))) (h : dk2 l c.toNat o i = true) : decode b pc = .ok (g i, 3) := by
  obtain ⟨h1, h2⟩ := Bool.and_eq_true_iff.mp h
  have h3 := Nat.eq_of_beq_eq_true h1
  match l, hd, h2 with
  | [], _, h2 => cases h2
  | [_], _, h2 => cases h2
  | x :: y :: r, hd, h2 =>
    obtain rfl := Nat.eq_of_beq_eq_true h2
    obtain ⟨a1, a2⟩ := dk_d hd
    obtain ⟨a3, a4⟩ := dk_d a2
    obtain ⟨a5, -⟩ := dk_d a4
    have g := dk_dec (n := pc + 3) ⟨c, a1, h3⟩ (by rw [e]; exact dk_bind (dk_u2 ⟨x, a3, rfl⟩ ⟨y, a5, rfl⟩))
    rwa [Nat.add_sub_cancel_left] at g
theorem dk_rs2 {g : Int → Instr} {i : Int} (hd : b.data.toList.drop pc = c :: l) (e : dkT.1 pc o = (Jvm.ClassFile.Reader.s2 >>= fun i => Pure.pure (g i))) (h : dks2 l c.toNat o i = true) : decode b pc = .ok (g i, 3) := by
  obtain ⟨h1, h2⟩ := Bool.and_eq_true_iff.mp h
  have h3 := Nat.eq_of_beq_eq_true h1
  match l, hd, h2 with
  | [], _, h2 => cases h2
  | [_], _, h2 => cases h2
  | x :: y :: r, hd, h2 =>
    obtain rfl := of_decide_eq_true h2
    obtain ⟨a1, a2⟩ := dk_d hd
    obtain ⟨a3, a4⟩ := dk_d a2
    obtain ⟨a5, -⟩ := dk_d a4
    have g := dk_dec (n := pc + 3) ⟨c, a1, h3⟩ (by rw [e]; exact dk_bind (dk_s2 ⟨x, a3, rfl⟩ ⟨y, a5, rfl⟩))
    rwa [Nat.add_sub_cancel_left] at g
theorem dk_ri {g : Nat → Int → Instr} {i : Nat} {v : Int} (hd : b.data.toList.drop pc = c :: l) (e : dkT.1 pc 132 = (Jvm.ClassFile.Reader.u1 >>= fun i => Jvm.ClassFile.Reader.s1 >>= fun v => Pure.pure (g i v))) (h : dki l c.toNat i v = true) : decode b pc = .ok (g i v, 3) := by
  obtain ⟨h1, h2⟩ := Bool.and_eq_true_iff.mp h
  have h3 := Nat.eq_of_beq_eq_true h1
  match l, hd, h2 with
  | [], _, h2 => cases h2
  | [_], _, h2 => cases h2
  | x :: y :: r, hd, h2 =>
    obtain ⟨h4, h5⟩ := Bool.and_eq_true_iff.mp h2
    obtain rfl := Nat.eq_of_beq_eq_true h4
    obtain rfl := of_decide_eq_true h5
    obtain ⟨a1, a2⟩ := dk_d hd
    obtain ⟨a3, a4⟩ := dk_d a2
    obtain ⟨a5, -⟩ := dk_d a4
    have g := dk_dec (n := pc + 3) ⟨c, a1, h3⟩ (by rw [e]; exact (dk_bind (dk_u1 ⟨x, a3, rfl⟩)).trans (dk_bind (dk_s1 ⟨y, a5, rfl⟩)))
    rwa [Nat.add_sub_cancel_left] at g
theorem dk_rn {f : Fin 4 → Instr} {n : Fin 4} (d0 : dk_at b pc op) (e0 : dkT.1 pc o = Pure.pure (f 0)) (e1 : dkT.1 pc (o + 1) = Pure.pure (f 1)) (e2 : dkT.1 pc (o + 2) = Pure.pure (f 2)) (e3 : dkT.1 pc (o + 3) = Pure.pure (f 3)) (h : Nat.beq op (o + n.val) = true) : decode b pc = .ok (f n, 1) := match n, h with
  | 0, h => dk_r0 d0 e0 h
  | 1, h => dk_r0 d0 e1 h
  | 2, h => dk_r0 d0 e2 h
  | 3, h => dk_r0 d0 e3 h
theorem dk_rl {f : Fin 2 → Instr} {n : Fin 2} (d0 : dk_at b pc op) (e0 : dkT.1 pc o = Pure.pure (f 0)) (e1 : dkT.1 pc (o + 1) = Pure.pure (f 1)) (h : Nat.beq op (o + n.val) = true) : decode b pc = .ok (f n, 1) := match n, h with
  | 0, h => dk_r0 d0 e0 h
  | 1, h => dk_r0 d0 e1 h
theorem dk_rc {k : Int} (d0 : dk_at b pc op) (e : ∀ j, j < 7 → dkT.1 pc (j + 2) = Pure.pure (.iconst ((j : Int) - 1))) (h : (Nat.ble 2 op && Nat.ble op 8 && decide ((op : Int) = k + 3)) = true) : decode b pc = .ok (.iconst k, 1) := by
  obtain ⟨h1, h2⟩ := Bool.and_eq_true_iff.mp h
  obtain ⟨h3, h4⟩ := Bool.and_eq_true_iff.mp h1
  have h5 := Nat.le_of_ble_eq_true h3
  have h6 := Nat.le_of_ble_eq_true h4
  have h7 := of_decide_eq_true h2
  have e1 := e (op - 2) (by omega)
  rw [show op - 2 + 2 = op by omega, show ((op - 2 : Nat) : Int) - 1 = k by omega] at e1
  exact dk_r0 d0 e1 (Nat.beq_refl op)
theorem dk_rna {t : Jvm.ClassFile.ArrayType} {a : Nat} (hd : b.data.toList.drop pc = c :: l) (e : ∀ q p, dk_at q p a → dkT.1 pc 188 q p = .ok (.newarray t, p + 1)) (h : dk1 l c.toNat 188 a = true) : decode b pc = .ok (.newarray t, 2) := by
  obtain ⟨h1, h2⟩ := Bool.and_eq_true_iff.mp h
  have h3 := Nat.eq_of_beq_eq_true h1
  cases l with
  | nil => cases h2
  | cons x r =>
    have h4 := Nat.eq_of_beq_eq_true h2
    obtain ⟨a1, a2⟩ := dk_d hd
    obtain ⟨a3, -⟩ := dk_d a2
    have g := dk_dec (n := pc + 2) ⟨c, a1, h3⟩ (e b (pc + 1) ⟨x, a3, h4⟩)
    rwa [Nat.add_sub_cancel_left] at g
end DKR
theorem dt_50 (pc : Nat) : dkT.1 pc 50 = (Pure.pure .aaload : Jvm.ClassFile.Decoder Instr) := rfl
theorem dt_83 (pc : Nat) : dkT.1 pc 83 = (Pure.pure .aastore : Jvm.ClassFile.Decoder Instr) := rfl
theorem dt_176 (pc : Nat) : dkT.1 pc 176 = (Pure.pure .areturn : Jvm.ClassFile.Decoder Instr) := rfl
theorem dt_190 (pc : Nat) : dkT.1 pc 190 = (Pure.pure .arraylength : Jvm.ClassFile.Decoder Instr) := rfl
theorem dt_51 (pc : Nat) : dkT.1 pc 51 = (Pure.pure .baload : Jvm.ClassFile.Decoder Instr) := rfl
theorem dt_84 (pc : Nat) : dkT.1 pc 84 = (Pure.pure .bastore : Jvm.ClassFile.Decoder Instr) := rfl
theorem dt_89 (pc : Nat) : dkT.1 pc 89 = (Pure.pure .dup : Jvm.ClassFile.Decoder Instr) := rfl
theorem dt_92 (pc : Nat) : dkT.1 pc 92 = (Pure.pure .dup2 : Jvm.ClassFile.Decoder Instr) := rfl
theorem dt_145 (pc : Nat) : dkT.1 pc 145 = (Pure.pure .i2b : Jvm.ClassFile.Decoder Instr) := rfl
theorem dt_146 (pc : Nat) : dkT.1 pc 146 = (Pure.pure .i2c : Jvm.ClassFile.Decoder Instr) := rfl
theorem dt_133 (pc : Nat) : dkT.1 pc 133 = (Pure.pure .i2l : Jvm.ClassFile.Decoder Instr) := rfl
theorem dt_147 (pc : Nat) : dkT.1 pc 147 = (Pure.pure .i2s : Jvm.ClassFile.Decoder Instr) := rfl
theorem dt_96 (pc : Nat) : dkT.1 pc 96 = (Pure.pure .iadd : Jvm.ClassFile.Decoder Instr) := rfl
theorem dt_46 (pc : Nat) : dkT.1 pc 46 = (Pure.pure .iaload : Jvm.ClassFile.Decoder Instr) := rfl
theorem dt_126 (pc : Nat) : dkT.1 pc 126 = (Pure.pure .iand : Jvm.ClassFile.Decoder Instr) := rfl
theorem dt_79 (pc : Nat) : dkT.1 pc 79 = (Pure.pure .iastore : Jvm.ClassFile.Decoder Instr) := rfl
theorem dt_108 (pc : Nat) : dkT.1 pc 108 = (Pure.pure .idiv : Jvm.ClassFile.Decoder Instr) := rfl
theorem dt_104 (pc : Nat) : dkT.1 pc 104 = (Pure.pure .imul : Jvm.ClassFile.Decoder Instr) := rfl
theorem dt_116 (pc : Nat) : dkT.1 pc 116 = (Pure.pure .ineg : Jvm.ClassFile.Decoder Instr) := rfl
theorem dt_128 (pc : Nat) : dkT.1 pc 128 = (Pure.pure .ior : Jvm.ClassFile.Decoder Instr) := rfl
theorem dt_112 (pc : Nat) : dkT.1 pc 112 = (Pure.pure .irem : Jvm.ClassFile.Decoder Instr) := rfl
theorem dt_172 (pc : Nat) : dkT.1 pc 172 = (Pure.pure .ireturn : Jvm.ClassFile.Decoder Instr) := rfl
theorem dt_120 (pc : Nat) : dkT.1 pc 120 = (Pure.pure .ishl : Jvm.ClassFile.Decoder Instr) := rfl
theorem dt_122 (pc : Nat) : dkT.1 pc 122 = (Pure.pure .ishr : Jvm.ClassFile.Decoder Instr) := rfl
theorem dt_100 (pc : Nat) : dkT.1 pc 100 = (Pure.pure .isub : Jvm.ClassFile.Decoder Instr) := rfl
theorem dt_124 (pc : Nat) : dkT.1 pc 124 = (Pure.pure .iushr : Jvm.ClassFile.Decoder Instr) := rfl
theorem dt_130 (pc : Nat) : dkT.1 pc 130 = (Pure.pure .ixor : Jvm.ClassFile.Decoder Instr) := rfl
theorem dt_136 (pc : Nat) : dkT.1 pc 136 = (Pure.pure .l2i : Jvm.ClassFile.Decoder Instr) := rfl
theorem dt_97 (pc : Nat) : dkT.1 pc 97 = (Pure.pure .ladd : Jvm.ClassFile.Decoder Instr) := rfl
theorem dt_47 (pc : Nat) : dkT.1 pc 47 = (Pure.pure .laload : Jvm.ClassFile.Decoder Instr) := rfl
theorem dt_127 (pc : Nat) : dkT.1 pc 127 = (Pure.pure .land : Jvm.ClassFile.Decoder Instr) := rfl
theorem dt_80 (pc : Nat) : dkT.1 pc 80 = (Pure.pure .lastore : Jvm.ClassFile.Decoder Instr) := rfl
theorem dt_148 (pc : Nat) : dkT.1 pc 148 = (Pure.pure .lcmp : Jvm.ClassFile.Decoder Instr) := rfl
theorem dt_109 (pc : Nat) : dkT.1 pc 109 = (Pure.pure .ldiv : Jvm.ClassFile.Decoder Instr) := rfl
theorem dt_105 (pc : Nat) : dkT.1 pc 105 = (Pure.pure .lmul : Jvm.ClassFile.Decoder Instr) := rfl
theorem dt_129 (pc : Nat) : dkT.1 pc 129 = (Pure.pure .lor : Jvm.ClassFile.Decoder Instr) := rfl
theorem dt_113 (pc : Nat) : dkT.1 pc 113 = (Pure.pure .lrem : Jvm.ClassFile.Decoder Instr) := rfl
theorem dt_173 (pc : Nat) : dkT.1 pc 173 = (Pure.pure .lreturn : Jvm.ClassFile.Decoder Instr) := rfl
theorem dt_121 (pc : Nat) : dkT.1 pc 121 = (Pure.pure .lshl : Jvm.ClassFile.Decoder Instr) := rfl
theorem dt_123 (pc : Nat) : dkT.1 pc 123 = (Pure.pure .lshr : Jvm.ClassFile.Decoder Instr) := rfl
theorem dt_101 (pc : Nat) : dkT.1 pc 101 = (Pure.pure .lsub : Jvm.ClassFile.Decoder Instr) := rfl
theorem dt_125 (pc : Nat) : dkT.1 pc 125 = (Pure.pure .lushr : Jvm.ClassFile.Decoder Instr) := rfl
theorem dt_131 (pc : Nat) : dkT.1 pc 131 = (Pure.pure .lxor : Jvm.ClassFile.Decoder Instr) := rfl
theorem dt_87 (pc : Nat) : dkT.1 pc 87 = (Pure.pure .pop : Jvm.ClassFile.Decoder Instr) := rfl
theorem dt_88 (pc : Nat) : dkT.1 pc 88 = (Pure.pure .pop2 : Jvm.ClassFile.Decoder Instr) := rfl
theorem dt_177 (pc : Nat) : dkT.1 pc 177 = (Pure.pure .return_ : Jvm.ClassFile.Decoder Instr) := rfl
theorem dt_25 (pc : Nat) : dkT.1 pc 25 = (Jvm.ClassFile.Reader.u1 >>= fun i => Pure.pure (.aload i) : Jvm.ClassFile.Decoder Instr) := rfl
theorem dt_58 (pc : Nat) : dkT.1 pc 58 = (Jvm.ClassFile.Reader.u1 >>= fun i => Pure.pure (.astore i) : Jvm.ClassFile.Decoder Instr) := rfl
theorem dt_21 (pc : Nat) : dkT.1 pc 21 = (Jvm.ClassFile.Reader.u1 >>= fun i => Pure.pure (.iload i) : Jvm.ClassFile.Decoder Instr) := rfl
theorem dt_54 (pc : Nat) : dkT.1 pc 54 = (Jvm.ClassFile.Reader.u1 >>= fun i => Pure.pure (.istore i) : Jvm.ClassFile.Decoder Instr) := rfl
theorem dt_18 (pc : Nat) : dkT.1 pc 18 = (Jvm.ClassFile.Reader.u1 >>= fun i => Pure.pure (.ldc i) : Jvm.ClassFile.Decoder Instr) := rfl
theorem dt_22 (pc : Nat) : dkT.1 pc 22 = (Jvm.ClassFile.Reader.u1 >>= fun i => Pure.pure (.lload i) : Jvm.ClassFile.Decoder Instr) := rfl
theorem dt_55 (pc : Nat) : dkT.1 pc 55 = (Jvm.ClassFile.Reader.u1 >>= fun i => Pure.pure (.lstore i) : Jvm.ClassFile.Decoder Instr) := rfl
theorem dt_189 (pc : Nat) : dkT.1 pc 189 = (Jvm.ClassFile.Reader.u2 >>= fun i => Pure.pure (.anewarray i) : Jvm.ClassFile.Decoder Instr) := rfl
theorem dt_180 (pc : Nat) : dkT.1 pc 180 = (Jvm.ClassFile.Reader.u2 >>= fun i => Pure.pure (.getfield i) : Jvm.ClassFile.Decoder Instr) := rfl
theorem dt_178 (pc : Nat) : dkT.1 pc 178 = (Jvm.ClassFile.Reader.u2 >>= fun i => Pure.pure (.getstatic i) : Jvm.ClassFile.Decoder Instr) := rfl
theorem dt_183 (pc : Nat) : dkT.1 pc 183 = (Jvm.ClassFile.Reader.u2 >>= fun i => Pure.pure (.invokespecial i) : Jvm.ClassFile.Decoder Instr) := rfl
theorem dt_184 (pc : Nat) : dkT.1 pc 184 = (Jvm.ClassFile.Reader.u2 >>= fun i => Pure.pure (.invokestatic i) : Jvm.ClassFile.Decoder Instr) := rfl
theorem dt_182 (pc : Nat) : dkT.1 pc 182 = (Jvm.ClassFile.Reader.u2 >>= fun i => Pure.pure (.invokevirtual i) : Jvm.ClassFile.Decoder Instr) := rfl
theorem dt_20 (pc : Nat) : dkT.1 pc 20 = (Jvm.ClassFile.Reader.u2 >>= fun i => Pure.pure (.ldc2_w i) : Jvm.ClassFile.Decoder Instr) := rfl
theorem dt_19 (pc : Nat) : dkT.1 pc 19 = (Jvm.ClassFile.Reader.u2 >>= fun i => Pure.pure (.ldc_w i) : Jvm.ClassFile.Decoder Instr) := rfl
theorem dt_187 (pc : Nat) : dkT.1 pc 187 = (Jvm.ClassFile.Reader.u2 >>= fun i => Pure.pure (.new i) : Jvm.ClassFile.Decoder Instr) := rfl
theorem dt_181 (pc : Nat) : dkT.1 pc 181 = (Jvm.ClassFile.Reader.u2 >>= fun i => Pure.pure (.putfield i) : Jvm.ClassFile.Decoder Instr) := rfl
theorem dt_42 (pc : Nat) : dkT.1 pc 42 = (Pure.pure (.aload_n 0) : Jvm.ClassFile.Decoder Instr) := rfl
theorem dt_43 (pc : Nat) : dkT.1 pc 43 = (Pure.pure (.aload_n 1) : Jvm.ClassFile.Decoder Instr) := rfl
theorem dt_44 (pc : Nat) : dkT.1 pc 44 = (Pure.pure (.aload_n 2) : Jvm.ClassFile.Decoder Instr) := rfl
theorem dt_45 (pc : Nat) : dkT.1 pc 45 = (Pure.pure (.aload_n 3) : Jvm.ClassFile.Decoder Instr) := rfl
theorem dt_75 (pc : Nat) : dkT.1 pc 75 = (Pure.pure (.astore_n 0) : Jvm.ClassFile.Decoder Instr) := rfl
theorem dt_76 (pc : Nat) : dkT.1 pc 76 = (Pure.pure (.astore_n 1) : Jvm.ClassFile.Decoder Instr) := rfl
theorem dt_77 (pc : Nat) : dkT.1 pc 77 = (Pure.pure (.astore_n 2) : Jvm.ClassFile.Decoder Instr) := rfl
theorem dt_78 (pc : Nat) : dkT.1 pc 78 = (Pure.pure (.astore_n 3) : Jvm.ClassFile.Decoder Instr) := rfl
theorem dt_26 (pc : Nat) : dkT.1 pc 26 = (Pure.pure (.iload_n 0) : Jvm.ClassFile.Decoder Instr) := rfl
theorem dt_27 (pc : Nat) : dkT.1 pc 27 = (Pure.pure (.iload_n 1) : Jvm.ClassFile.Decoder Instr) := rfl
theorem dt_28 (pc : Nat) : dkT.1 pc 28 = (Pure.pure (.iload_n 2) : Jvm.ClassFile.Decoder Instr) := rfl
theorem dt_29 (pc : Nat) : dkT.1 pc 29 = (Pure.pure (.iload_n 3) : Jvm.ClassFile.Decoder Instr) := rfl
theorem dt_59 (pc : Nat) : dkT.1 pc 59 = (Pure.pure (.istore_n 0) : Jvm.ClassFile.Decoder Instr) := rfl
theorem dt_60 (pc : Nat) : dkT.1 pc 60 = (Pure.pure (.istore_n 1) : Jvm.ClassFile.Decoder Instr) := rfl
theorem dt_61 (pc : Nat) : dkT.1 pc 61 = (Pure.pure (.istore_n 2) : Jvm.ClassFile.Decoder Instr) := rfl
theorem dt_62 (pc : Nat) : dkT.1 pc 62 = (Pure.pure (.istore_n 3) : Jvm.ClassFile.Decoder Instr) := rfl
theorem dt_30 (pc : Nat) : dkT.1 pc 30 = (Pure.pure (.lload_n 0) : Jvm.ClassFile.Decoder Instr) := rfl
theorem dt_31 (pc : Nat) : dkT.1 pc 31 = (Pure.pure (.lload_n 1) : Jvm.ClassFile.Decoder Instr) := rfl
theorem dt_32 (pc : Nat) : dkT.1 pc 32 = (Pure.pure (.lload_n 2) : Jvm.ClassFile.Decoder Instr) := rfl
theorem dt_33 (pc : Nat) : dkT.1 pc 33 = (Pure.pure (.lload_n 3) : Jvm.ClassFile.Decoder Instr) := rfl
theorem dt_63 (pc : Nat) : dkT.1 pc 63 = (Pure.pure (.lstore_n 0) : Jvm.ClassFile.Decoder Instr) := rfl
theorem dt_64 (pc : Nat) : dkT.1 pc 64 = (Pure.pure (.lstore_n 1) : Jvm.ClassFile.Decoder Instr) := rfl
theorem dt_65 (pc : Nat) : dkT.1 pc 65 = (Pure.pure (.lstore_n 2) : Jvm.ClassFile.Decoder Instr) := rfl
theorem dt_66 (pc : Nat) : dkT.1 pc 66 = (Pure.pure (.lstore_n 3) : Jvm.ClassFile.Decoder Instr) := rfl
theorem dt_9 (pc : Nat) : dkT.1 pc 9 = (Pure.pure (.lconst 0) : Jvm.ClassFile.Decoder Instr) := rfl
theorem dt_10 (pc : Nat) : dkT.1 pc 10 = (Pure.pure (.lconst 1) : Jvm.ClassFile.Decoder Instr) := rfl
theorem dt_2 (pc : Nat) : dkT.1 pc 2 = (Pure.pure (.iconst (-1)) : Jvm.ClassFile.Decoder Instr) := rfl
theorem dt_3 (pc : Nat) : dkT.1 pc 3 = (Pure.pure (.iconst (0)) : Jvm.ClassFile.Decoder Instr) := rfl
theorem dt_4 (pc : Nat) : dkT.1 pc 4 = (Pure.pure (.iconst (1)) : Jvm.ClassFile.Decoder Instr) := rfl
theorem dt_5 (pc : Nat) : dkT.1 pc 5 = (Pure.pure (.iconst (2)) : Jvm.ClassFile.Decoder Instr) := rfl
theorem dt_6 (pc : Nat) : dkT.1 pc 6 = (Pure.pure (.iconst (3)) : Jvm.ClassFile.Decoder Instr) := rfl
theorem dt_7 (pc : Nat) : dkT.1 pc 7 = (Pure.pure (.iconst (4)) : Jvm.ClassFile.Decoder Instr) := rfl
theorem dt_8 (pc : Nat) : dkT.1 pc 8 = (Pure.pure (.iconst (5)) : Jvm.ClassFile.Decoder Instr) := rfl
theorem dt_16 (pc : Nat) : dkT.1 pc 16 = (Jvm.ClassFile.Reader.s1 >>= fun i => Pure.pure (.bipush i) : Jvm.ClassFile.Decoder Instr) := rfl
theorem dt_17 (pc : Nat) : dkT.1 pc 17 = (Jvm.ClassFile.Reader.s2 >>= fun i => Pure.pure (.sipush i) : Jvm.ClassFile.Decoder Instr) := rfl
theorem dt_167 (pc : Nat) : dkT.1 pc 167 = (Jvm.ClassFile.Reader.s2 >>= fun i => Pure.pure (.goto i) : Jvm.ClassFile.Decoder Instr) := rfl
theorem dt_153 (pc : Nat) : dkT.1 pc 153 = (Jvm.ClassFile.Reader.s2 >>= fun i => Pure.pure (.ifCond .eq i) : Jvm.ClassFile.Decoder Instr) := rfl
theorem dt_159 (pc : Nat) : dkT.1 pc 159 = (Jvm.ClassFile.Reader.s2 >>= fun i => Pure.pure (.if_icmp .eq i) : Jvm.ClassFile.Decoder Instr) := rfl
theorem dt_154 (pc : Nat) : dkT.1 pc 154 = (Jvm.ClassFile.Reader.s2 >>= fun i => Pure.pure (.ifCond .ne i) : Jvm.ClassFile.Decoder Instr) := rfl
theorem dt_160 (pc : Nat) : dkT.1 pc 160 = (Jvm.ClassFile.Reader.s2 >>= fun i => Pure.pure (.if_icmp .ne i) : Jvm.ClassFile.Decoder Instr) := rfl
theorem dt_155 (pc : Nat) : dkT.1 pc 155 = (Jvm.ClassFile.Reader.s2 >>= fun i => Pure.pure (.ifCond .lt i) : Jvm.ClassFile.Decoder Instr) := rfl
theorem dt_161 (pc : Nat) : dkT.1 pc 161 = (Jvm.ClassFile.Reader.s2 >>= fun i => Pure.pure (.if_icmp .lt i) : Jvm.ClassFile.Decoder Instr) := rfl
theorem dt_156 (pc : Nat) : dkT.1 pc 156 = (Jvm.ClassFile.Reader.s2 >>= fun i => Pure.pure (.ifCond .ge i) : Jvm.ClassFile.Decoder Instr) := rfl
theorem dt_162 (pc : Nat) : dkT.1 pc 162 = (Jvm.ClassFile.Reader.s2 >>= fun i => Pure.pure (.if_icmp .ge i) : Jvm.ClassFile.Decoder Instr) := rfl
theorem dt_157 (pc : Nat) : dkT.1 pc 157 = (Jvm.ClassFile.Reader.s2 >>= fun i => Pure.pure (.ifCond .gt i) : Jvm.ClassFile.Decoder Instr) := rfl
theorem dt_163 (pc : Nat) : dkT.1 pc 163 = (Jvm.ClassFile.Reader.s2 >>= fun i => Pure.pure (.if_icmp .gt i) : Jvm.ClassFile.Decoder Instr) := rfl
theorem dt_158 (pc : Nat) : dkT.1 pc 158 = (Jvm.ClassFile.Reader.s2 >>= fun i => Pure.pure (.ifCond .le i) : Jvm.ClassFile.Decoder Instr) := rfl
theorem dt_164 (pc : Nat) : dkT.1 pc 164 = (Jvm.ClassFile.Reader.s2 >>= fun i => Pure.pure (.if_icmp .le i) : Jvm.ClassFile.Decoder Instr) := rfl
theorem dt_132 (pc : Nat) : dkT.1 pc 132 = (Jvm.ClassFile.Reader.u1 >>= fun i => Jvm.ClassFile.Reader.s1 >>= fun v => Pure.pure (.iinc i v) : Jvm.ClassFile.Decoder Instr) := rfl
theorem dta_10 (pc : Nat) : ∀ q p, dk_at q p 10 → dkT.1 pc 188 q p = .ok (.newarray .int, p + 1) := fun q p h => by
  show (Jvm.ClassFile.Reader.u1 >>= _ : Jvm.ClassFile.Decoder Instr) q p = _
  exact (dk_bind (dk_u1 h)).trans rfl
theorem dta_11 (pc : Nat) : ∀ q p, dk_at q p 11 → dkT.1 pc 188 q p = .ok (.newarray .long, p + 1) := fun q p h => by
  show (Jvm.ClassFile.Reader.u1 >>= _ : Jvm.ClassFile.Decoder Instr) q p = _
  exact (dk_bind (dk_u1 h)).trans rfl
theorem dta_4 (pc : Nat) : ∀ q p, dk_at q p 4 → dkT.1 pc 188 q p = .ok (.newarray .boolean, p + 1) := fun q p h => by
  show (Jvm.ClassFile.Reader.u1 >>= _ : Jvm.ClassFile.Decoder Instr) q p = _
  exact (dk_bind (dk_u1 h)).trans rfl
theorem dtc (pc : Nat) : ∀ j, j < 7 → dkT.1 pc (j + 2) = (Pure.pure (.iconst ((j : Int) - 1)) : Jvm.ClassFile.Decoder Instr) := fun j hj => by
  rcases (show j = 0 ∨ j = 1 ∨ j = 2 ∨ j = 3 ∨ j = 4 ∨ j = 5 ∨ j = 6 by omega) with e | e | e | e | e | e | e <;> subst e
  · exact dt_2 pc
  · exact dt_3 pc
  · exact dt_4 pc
  · exact dt_5 pc
  · exact dt_6 pc
  · exact dt_7 pc
  · exact dt_8 pc
def dkC (c : Jvm.ClassFile.Cond) : Nat := match c with
  | .eq => 0
  | .ne => 1
  | .lt => 2
  | .ge => 3
  | .gt => 4
  | .le => 5
def dkI (b : ByteArray) (l : List UInt8) (op pc : Nat) (ins : Instr) (aux : Nat) : Bool := match ins with
  | .aaload => Nat.beq op 50
  | .aastore => Nat.beq op 83
  | .areturn => Nat.beq op 176
  | .arraylength => Nat.beq op 190
  | .baload => Nat.beq op 51
  | .bastore => Nat.beq op 84
  | .dup => Nat.beq op 89
  | .dup2 => Nat.beq op 92
  | .i2b => Nat.beq op 145
  | .i2c => Nat.beq op 146
  | .i2l => Nat.beq op 133
  | .i2s => Nat.beq op 147
  | .iadd => Nat.beq op 96
  | .iaload => Nat.beq op 46
  | .iand => Nat.beq op 126
  | .iastore => Nat.beq op 79
  | .idiv => Nat.beq op 108
  | .imul => Nat.beq op 104
  | .ineg => Nat.beq op 116
  | .ior => Nat.beq op 128
  | .irem => Nat.beq op 112
  | .ireturn => Nat.beq op 172
  | .ishl => Nat.beq op 120
  | .ishr => Nat.beq op 122
  | .isub => Nat.beq op 100
  | .iushr => Nat.beq op 124
  | .ixor => Nat.beq op 130
  | .l2i => Nat.beq op 136
  | .ladd => Nat.beq op 97
  | .laload => Nat.beq op 47
  | .land => Nat.beq op 127
  | .lastore => Nat.beq op 80
  | .lcmp => Nat.beq op 148
  | .ldiv => Nat.beq op 109
  | .lmul => Nat.beq op 105
  | .lor => Nat.beq op 129
  | .lrem => Nat.beq op 113
  | .lreturn => Nat.beq op 173
  | .lshl => Nat.beq op 121
  | .lshr => Nat.beq op 123
  | .lsub => Nat.beq op 101
  | .lushr => Nat.beq op 125
  | .lxor => Nat.beq op 131
  | .pop => Nat.beq op 87
  | .pop2 => Nat.beq op 88
  | .return_ => Nat.beq op 177
  | .aload i => dk1 l op 25 i
  | .astore i => dk1 l op 58 i
  | .iload i => dk1 l op 21 i
  | .istore i => dk1 l op 54 i
  | .ldc i => dk1 l op 18 i
  | .lload i => dk1 l op 22 i
  | .lstore i => dk1 l op 55 i
  | .anewarray i => dk2 l op 189 i
  | .getfield i => dk2 l op 180 i
  | .getstatic i => dk2 l op 178 i
  | .invokespecial i => dk2 l op 183 i
  | .invokestatic i => dk2 l op 184 i
  | .invokevirtual i => dk2 l op 182 i
  | .ldc2_w i => dk2 l op 20 i
  | .ldc_w i => dk2 l op 19 i
  | .new i => dk2 l op 187 i
  | .putfield i => dk2 l op 181 i
  | .aload_n n => Nat.beq op (42 + n.val)
  | .astore_n n => Nat.beq op (75 + n.val)
  | .iload_n n => Nat.beq op (26 + n.val)
  | .istore_n n => Nat.beq op (59 + n.val)
  | .lload_n n => Nat.beq op (30 + n.val)
  | .lstore_n n => Nat.beq op (63 + n.val)
  | .lconst n => Nat.beq op (9 + n.val)
  | .iconst k => (Nat.ble 2 op && Nat.ble op 8 && decide ((op : Int) = k + 3))
  | .bipush v => dks1 l op 16 v
  | .sipush v => dks2 l op 17 v
  | .goto v => dks2 l op 167 v
  | .iinc i v => dki l op i v
  | .ifCond c v => dks2 l op (153 + dkC c) v
  | .if_icmp c v => dks2 l op (159 + dkC c) v
  | .newarray .int => dk1 l op 188 10
  | .newarray .long => dk1 l op 188 11
  | .newarray .boolean => dk1 l op 188 4
  | ins => decide (decode b pc = .ok (ins, pm_len ins aux))
theorem dkI_ok {b : ByteArray} {l : List UInt8} {c : UInt8} {pc aux : Nat} {ins : Instr} (hd : b.data.toList.drop pc = c :: l) (h : dkI b l c.toNat pc ins aux = true) : decode b pc = .ok (ins, pm_len ins aux) := by
  have d0 : dk_at b pc c.toNat := ⟨c, (dk_d hd).1, rfl⟩
  cases ins with
  | aaload => exact dk_r0 d0 (dt_50 pc) h
  | aastore => exact dk_r0 d0 (dt_83 pc) h
  | areturn => exact dk_r0 d0 (dt_176 pc) h
  | arraylength => exact dk_r0 d0 (dt_190 pc) h
  | baload => exact dk_r0 d0 (dt_51 pc) h
  | bastore => exact dk_r0 d0 (dt_84 pc) h
  | dup => exact dk_r0 d0 (dt_89 pc) h
  | dup2 => exact dk_r0 d0 (dt_92 pc) h
  | i2b => exact dk_r0 d0 (dt_145 pc) h
  | i2c => exact dk_r0 d0 (dt_146 pc) h
  | i2l => exact dk_r0 d0 (dt_133 pc) h
  | i2s => exact dk_r0 d0 (dt_147 pc) h
  | iadd => exact dk_r0 d0 (dt_96 pc) h
  | iaload => exact dk_r0 d0 (dt_46 pc) h
  | iand => exact dk_r0 d0 (dt_126 pc) h
  | iastore => exact dk_r0 d0 (dt_79 pc) h
  | idiv => exact dk_r0 d0 (dt_108 pc) h
  | imul => exact dk_r0 d0 (dt_104 pc) h
  | ineg => exact dk_r0 d0 (dt_116 pc) h
  | ior => exact dk_r0 d0 (dt_128 pc) h
  | irem => exact dk_r0 d0 (dt_112 pc) h
  | ireturn => exact dk_r0 d0 (dt_172 pc) h
  | ishl => exact dk_r0 d0 (dt_120 pc) h
  | ishr => exact dk_r0 d0 (dt_122 pc) h
  | isub => exact dk_r0 d0 (dt_100 pc) h
  | iushr => exact dk_r0 d0 (dt_124 pc) h
  | ixor => exact dk_r0 d0 (dt_130 pc) h
  | l2i => exact dk_r0 d0 (dt_136 pc) h
  | ladd => exact dk_r0 d0 (dt_97 pc) h
  | laload => exact dk_r0 d0 (dt_47 pc) h
  | land => exact dk_r0 d0 (dt_127 pc) h
  | lastore => exact dk_r0 d0 (dt_80 pc) h
  | lcmp => exact dk_r0 d0 (dt_148 pc) h
  | ldiv => exact dk_r0 d0 (dt_109 pc) h
  | lmul => exact dk_r0 d0 (dt_105 pc) h
  | lor => exact dk_r0 d0 (dt_129 pc) h
  | lrem => exact dk_r0 d0 (dt_113 pc) h
  | lreturn => exact dk_r0 d0 (dt_173 pc) h
  | lshl => exact dk_r0 d0 (dt_121 pc) h
  | lshr => exact dk_r0 d0 (dt_123 pc) h
  | lsub => exact dk_r0 d0 (dt_101 pc) h
  | lushr => exact dk_r0 d0 (dt_125 pc) h
  | lxor => exact dk_r0 d0 (dt_131 pc) h
  | pop => exact dk_r0 d0 (dt_87 pc) h
  | pop2 => exact dk_r0 d0 (dt_88 pc) h
  | return_ => exact dk_r0 d0 (dt_177 pc) h
  | aload i => exact dk_r1 (g := .aload) hd (dt_25 pc) h
  | astore i => exact dk_r1 (g := .astore) hd (dt_58 pc) h
  | iload i => exact dk_r1 (g := .iload) hd (dt_21 pc) h
  | istore i => exact dk_r1 (g := .istore) hd (dt_54 pc) h
  | ldc i => exact dk_r1 (g := .ldc) hd (dt_18 pc) h
  | lload i => exact dk_r1 (g := .lload) hd (dt_22 pc) h
  | lstore i => exact dk_r1 (g := .lstore) hd (dt_55 pc) h
  | anewarray i => exact dk_r2 (g := .anewarray) hd (dt_189 pc) h
  | getfield i => exact dk_r2 (g := .getfield) hd (dt_180 pc) h
  | getstatic i => exact dk_r2 (g := .getstatic) hd (dt_178 pc) h
  | invokespecial i => exact dk_r2 (g := .invokespecial) hd (dt_183 pc) h
  | invokestatic i => exact dk_r2 (g := .invokestatic) hd (dt_184 pc) h
  | invokevirtual i => exact dk_r2 (g := .invokevirtual) hd (dt_182 pc) h
  | ldc2_w i => exact dk_r2 (g := .ldc2_w) hd (dt_20 pc) h
  | ldc_w i => exact dk_r2 (g := .ldc_w) hd (dt_19 pc) h
  | new i => exact dk_r2 (g := .new) hd (dt_187 pc) h
  | putfield i => exact dk_r2 (g := .putfield) hd (dt_181 pc) h
  | aload_n n => exact dk_rn (f := .aload_n) d0 (dt_42 pc) (dt_43 pc) (dt_44 pc) (dt_45 pc) h
  | astore_n n => exact dk_rn (f := .astore_n) d0 (dt_75 pc) (dt_76 pc) (dt_77 pc) (dt_78 pc) h
  | iload_n n => exact dk_rn (f := .iload_n) d0 (dt_26 pc) (dt_27 pc) (dt_28 pc) (dt_29 pc) h
  | istore_n n => exact dk_rn (f := .istore_n) d0 (dt_59 pc) (dt_60 pc) (dt_61 pc) (dt_62 pc) h
  | lload_n n => exact dk_rn (f := .lload_n) d0 (dt_30 pc) (dt_31 pc) (dt_32 pc) (dt_33 pc) h
  | lstore_n n => exact dk_rn (f := .lstore_n) d0 (dt_63 pc) (dt_64 pc) (dt_65 pc) (dt_66 pc) h
  | lconst n => exact dk_rl (f := .lconst) d0 (dt_9 pc) (dt_10 pc) h
  | iconst k => exact dk_rc d0 (dtc pc) h
  | bipush v => exact dk_rs1 (g := .bipush) hd (dt_16 pc) h
  | sipush v => exact dk_rs2 (g := .sipush) hd (dt_17 pc) h
  | goto v => exact dk_rs2 (g := .goto) hd (dt_167 pc) h
  | iinc i v => exact dk_ri (g := .iinc) hd (dt_132 pc) h
  | ifCond q v =>
    cases q with
    | eq => exact dk_rs2 (g := .ifCond .eq) hd (dt_153 pc) h
    | ne => exact dk_rs2 (g := .ifCond .ne) hd (dt_154 pc) h
    | lt => exact dk_rs2 (g := .ifCond .lt) hd (dt_155 pc) h
    | ge => exact dk_rs2 (g := .ifCond .ge) hd (dt_156 pc) h
    | gt => exact dk_rs2 (g := .ifCond .gt) hd (dt_157 pc) h
    | le => exact dk_rs2 (g := .ifCond .le) hd (dt_158 pc) h
  | if_icmp q v =>
    cases q with
    | eq => exact dk_rs2 (g := .if_icmp .eq) hd (dt_159 pc) h
    | ne => exact dk_rs2 (g := .if_icmp .ne) hd (dt_160 pc) h
    | lt => exact dk_rs2 (g := .if_icmp .lt) hd (dt_161 pc) h
    | ge => exact dk_rs2 (g := .if_icmp .ge) hd (dt_162 pc) h
    | gt => exact dk_rs2 (g := .if_icmp .gt) hd (dt_163 pc) h
    | le => exact dk_rs2 (g := .if_icmp .le) hd (dt_164 pc) h
  | newarray t =>
    cases t with
    | int => exact dk_rna hd (dta_10 pc) h
    | long => exact dk_rna hd (dta_11 pc) h
    | boolean => exact dk_rna hd (dta_4 pc) h
    | _ => exact of_decide_eq_true h
  | _ => exact of_decide_eq_true h
def dkR (b : ByteArray) : List UInt8 → Nat → List (Nat × Nat × Instr × Nat) → Bool
  | _, _, [] => true
  | l, pos, q :: qs => (match l.drop (q.1 - pos) with
      | x :: r => Nat.ble pos q.1 && dkI b r x.toNat q.1 q.2.2.1 q.2.2.2
      | [] => false) && dkR b (l.drop (q.1 - pos)) q.1 qs
theorem dkR_ok {b : ByteArray} : ∀ (qs : List (Nat × Nat × Instr × Nat)) (l : List UInt8) (pos : Nat), b.data.toList.drop pos = l → dkR b l pos qs = true → ∀ q ∈ qs, decode b q.1 = .ok (q.2.2.1, pm_len q.2.2.1 q.2.2.2)
  | [], _, _, _, _ => fun _ h => absurd h List.not_mem_nil
  | q :: qs, l, pos, hl, h => by
    obtain ⟨h1, h2⟩ := Bool.and_eq_true_iff.mp h
    cases e : l.drop (q.1 - pos) with
    | nil =>
      rw [e] at h1
      cases h1
    | cons x r =>
      rw [e] at h1 h2
      obtain ⟨h3, h4⟩ := Bool.and_eq_true_iff.mp h1
      have h5 : pos ≤ q.1 := Nat.le_of_ble_eq_true h3
      have h6 : b.data.toList.drop q.1 = x :: r := by rw [← e, ← hl, List.drop_drop, show pos + (q.1 - pos) = q.1 by omega]
      exact List.forall_mem_cons.mpr ⟨dkI_ok h6 h4, dkR_ok qs _ _ h6 h2⟩
def pm_rowB (cl : List vw_C) (lks : pm_Lks) (r : pm_Row) : Bool := dkR r.1.2.1 r.1.2.1.data.toList 0 r.2.2.2.flatten && r.2.2.2.all (fun c => c.all (fun q => pm_tokB q.2.2.1 q.1 q.2.2.2 && pm_finB cl (pm_lkT lks r.2.1) r.1.1 q.2.2.1))
theorem pm_rowB_ok {cl : List vw_C} {lks : pm_Lks} {r : pm_Row} (h : pm_rowB cl lks r = true) : ∀ c ∈ r.2.2.2, ∀ q ∈ c, decode r.1.2.1 q.1 = .ok (q.2.2.1, pm_len q.2.2.1 q.2.2.2) ∧ pm_tokB q.2.2.1 q.1 q.2.2.2 = true ∧ pm_finB cl (pm_lkT lks r.2.1) r.1.1 q.2.2.1 = true := by
  obtain ⟨h1, h2⟩ := Bool.and_eq_true_iff.mp h
  intro c hc q hq
  have h3 := Bool.and_eq_true_iff.mp (List.all_eq_true.mp (List.all_eq_true.mp h2 c hc) q hq)
  exact ⟨dkR_ok _ _ 0 rfl h1 q (List.mem_flatten.mpr ⟨c, hc, hq⟩), h3.1, h3.2⟩
