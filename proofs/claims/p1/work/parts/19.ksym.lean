/-! A method's run, step by step: the rows that wip/pm/sym.py names -/
def pm_Te (K : pm_K) (al : Bool) (C : Nat → List Value → pm_H → pm_R → Prop) (mj : Nat) (x : pm_S) (r : pm_R) : Prop := ∃ n, pm_Tn K al C mj n x r
section SYM
variable {K : pm_K} {al : Bool} {C : Nat → List Value → pm_H → pm_R → Prop} {mj pc aux : Nat} {ins : Instr} {L L' : List (Option Value)} {st st' : List Value} {ph ph' : pm_H} {c s : Nat} {x x' y : pm_S} {r : pm_R}
theorem pm_Te.step (h : pm_step K al mj x = some (.inl x')) (kk : pm_Te K al C mj x' r) : pm_Te K al C mj x r := by
  obtain ⟨n, hn⟩ := kk
  refine ⟨n + 1, ?_⟩
  rw [pm_Tn, h]
  exact hn
theorem pm_Te.call {j : Nat} {as : List Value} {v : Option Value} {c1 s1 : Nat} (h : pm_step K al mj x = some (.inr (.inl (j, as, (pc, L, st, ph, c, s))))) (hC : C j as ph (v, ph', c1, s1)) (kk : pm_Te K al C mj (pc, L, v.toList ++ st, ph', c + c1, s + s1) r) : pm_Te K al C mj x r := by
  obtain ⟨n, hn⟩ := kk
  refine ⟨n + 1, ?_⟩
  rw [pm_Tn, h]
  exact ⟨v, ph', c1, s1, hC, hn⟩
theorem pm_Te.ret {v : Option Value} (h : pm_step K al mj (pc, L, st, ph, c, s) = some (.inr (.inr v))) : pm_Te K al C mj (pc, L, st, ph, c, s) (v, ph, c, s) := by
  refine ⟨1, ?_⟩
  rw [pm_Tn, h]
theorem pm_Rd.mk {d : Nat} {as : List Value} (h : pm_entB K mj as = true) (kk : pm_Te K al (pm_Rd K al d) mj (pm_ent K mj as ph) r) : pm_Rd K al (d + 1) mj as ph r := ⟨h, kk⟩
theorem ks0 (hc : pm_code K mj pc = some (0, ins, aux)) (h : pm_alu ins st = some st') : pm_step K al mj (pc, L, st, ph, c, s) = some (.inl (pc + 1, L, st', ph, c, s)) := by
  unfold pm_step
  simp only [hc, h]
theorem ks2 {v : Value} {n : Nat} (hc : pm_code K mj pc = some (2, ins, aux)) (h : pm_load ins L = some (v, n)) : pm_step K al mj (pc, L, st, ph, c, s) = some (.inl (pc + n, L, v :: st, ph, c, s)) := by
  unfold pm_step
  simp only [hc, h]
theorem ks3 {n : Nat} (hc : pm_code K mj pc = some (3, ins, aux)) (h : pm_store ins L st = some (L', st', n)) : pm_step K al mj (pc, L, st, ph, c, s) = some (.inl (pc + n, L', st', ph, c, s)) := by
  unfold pm_step
  simp only [hc, h]
theorem ks4 {pc' : Nat} (hc : pm_code K mj pc = some (4, ins, aux)) (h : pm_br ins aux pc st = some (pc', st')) : pm_step K al mj (pc, L, st, ph, c, s) = some (.inl (pc', L, st', ph, c, s)) := by
  unfold pm_step
  simp only [hc, h]
theorem ks5 {n c1 s1 : Nat} (hc : pm_code K mj pc = some (5, ins, aux)) (h : pm_mem K al (pm_own K mj) ins st ph = some (n, st', ph', c1, s1)) : pm_step K al mj (pc, L, st, ph, c, s) = some (.inl (pc + n, L, st', ph', c + c1, s + s1)) := by
  unfold pm_step
  simp only [hc, h]
theorem ks6 {j : Nat} {as r0 : List Value} (hc : pm_code K mj pc = some (6, ins, aux)) (h : pm_inv K (pm_own K mj) ins st ph = some (j, as, r0)) : pm_step K al mj (pc, L, st, ph, c, s) = some (.inr (.inl (j, as, (pc + 3, L, r0, ph, c, s)))) := by
  unfold pm_step
  simp only [hc, h]
theorem ks1 {v : Value} {n : Nat} (hc : pm_code K mj pc = some (1, ins, aux)) (h : pm_push K (pm_own K mj) ins = some (v, n)) : pm_step K al mj (pc, L, st, ph, c, s) = some (.inl (pc + n, L, v :: st, ph, c, s)) := by
  unfold pm_step
  simp only [hc, h]
theorem ks7 {v : Option Value} (hc : pm_code K mj pc = some (7, ins, aux)) (h : pm_ret (pm_sig K mj).2.2 ins st = some v) : pm_step K al mj (pc, L, st, ph, c, s) = some (.inr (.inr v)) := by
  unfold pm_step
  simp only [hc, h]
theorem skg {i ci k a : Nat} {v0 v : Value} {fs q : List Value} (hc : pm_code K mj pc = some (5, .getfield i, aux)) (hl : pm_lnk K (pm_own K mj) i = some (6, ci, k, v0)) (ha : pm_at ph a = some (.inr (ci, fs))) (hv : fs[k]? = some v) : pm_step K al mj (pc, L, .ref a :: q, ph, c, s) = some (.inl (pc + 3, L, v :: q, ph, c, s)) := by
  refine (ks5 (n := 3) (c1 := 0) (s1 := 0) (st' := v :: q) (ph' := ph) hc ?_).trans rfl
  have e : Nat.beq ci ci = true := by first | exact Nat.beq_refl _ | exact Nat.beq_refl | simp
  unfold pm_mem
  simp only [hl, ha, hv, e, cond_true]
theorem sk_set {α : Type} {x : α} : ∀ {l : List α} {i : Nat}, l[i]? = some x → l.set i x = l := by
  intro l
  induction l with
  | nil => intro i h; rfl
  | cons a t ih =>
    intro i h
    cases i with
    | zero =>
      have e : some a = some x := h
      cases e
      rfl
    | succ n => exact congrArg (a :: ·) (ih ((List.getElem?_cons_succ).symm.trans h))
theorem sk_at {a : Nat} {z : pm_C} (h : pm_at ph a = some z) : ph[a]? = some z := by
  unfold pm_at at h
  cases hb : Nat.blt a 1048576 with
  | true => rw [hb] at h; exact h
  | false => rw [hb] at h; cases h
theorem skp {i ci k a : Nat} {v0 v : Value} {fs q : List Value} (hc : pm_code K mj pc = some (5, .putfield i, aux)) (hl : pm_lnk K (pm_own K mj) i = some (6, ci, k, v0)) (ha : pm_at ph a = some (.inr (ci, fs))) (hv : fs[k]? = some v) (hf : (pm_fit (pm_fty K ci k) v && Nat.blt k fs.length) = true) : pm_step K al mj (pc, L, v :: .ref a :: q, ph, c, s) = some (.inl (pc + 3, L, q, ph, c, s)) := by
  have e1 : fs.set k v = fs := sk_set hv
  have e2 : ph.set a (.inr (ci, fs)) = ph := sk_set (sk_at ha)
  refine (ks5 (n := 3) (c1 := 0) (s1 := 0) (st' := q) (ph' := ph) hc ?_).trans rfl
  have e : Nat.beq ci ci = true := by first | exact Nat.beq_refl _ | exact Nat.beq_refl | simp
  unfold pm_mem
  simp only [hl, ha, e, hf, e1, e2, Bool.true_and, cond_true]
theorem sk_s {ow i j n : Nat} {v0 : Value} {as q : List Value} (hl : pm_lnk K ow i = some (1, j, n, v0)) (hb : (Nat.ble n st.length && Nat.ble ((st.drop n).map fun v => v.category).sum 8) = true) (he : ((st.take n).reverse, st.drop n) = (as, q)) : pm_inv K ow (.invokestatic i) st ph = some (j, as, q) := by
  cases he
  unfold pm_inv
  simp only [hl, hb, cond_true]
theorem sk_v {ow i j n ci a : Nat} {q fs as : List Value} (hl : pm_lnk K ow i = some (2, j, n, .ref ci)) (hd : st.drop n = .ref a :: q) (ha : pm_at ph a = some (.inr (ci, fs))) (he : Nat.ble (q.map fun v => v.category).sum 8 = true) (ha2 : .ref a :: (st.take n).reverse = as) : pm_inv K ow (.invokevirtual i) st ph = some (j, as, q) := by
  subst ha2
  have e : Nat.beq ci ci = true := by first | exact Nat.beq_refl _ | exact Nat.beq_refl | simp
  unfold pm_inv
  simp only [hl, hd, ha, e, he, Bool.and_self, cond_true]
theorem sk_p {ow i j n a : Nat} {v0 : Value} {q as : List Value} (hl : pm_lnk K ow i = some (3, j, n, v0)) (hd : st.drop n = .ref a :: q) (he : Nat.ble (q.map fun v => v.category).sum 8 = true) (ha2 : .ref a :: (st.take n).reverse = as) : pm_inv K ow (.invokespecial i) st ph = some (j, as, q) := by
  subst ha2
  unfold pm_inv
  simp only [hl, hd, he, cond_true]
end SYM
section SYV
variable {aux pc : Nat} {o : Int} {x y z : Int32} {q : List Value} {b : Bool}
theorem kbz_eq (h : decide (x = 0) = b) : pm_br (.ifCond .eq o) aux pc (.int x :: q) = some (bif b then aux else pc + 3, q) := by
  subst h
  rfl
theorem kbi_eq (h : decide (x = y) = b) : pm_br (.if_icmp .eq o) aux pc (.int y :: .int x :: q) = some (bif b then aux else pc + 3, q) := by
  subst h
  rfl
theorem kbz_ne (h : decide (x = 0) = b) : pm_br (.ifCond .ne o) aux pc (.int x :: q) = some (bif b then pc + 3 else aux, q) := by
  subst h
  rfl
theorem kbi_ne (h : decide (x = y) = b) : pm_br (.if_icmp .ne o) aux pc (.int y :: .int x :: q) = some (bif b then pc + 3 else aux, q) := by
  subst h
  rfl
theorem kbz_lt (h : decide (x < 0) = b) : pm_br (.ifCond .lt o) aux pc (.int x :: q) = some (bif b then aux else pc + 3, q) := by
  subst h
  rfl
theorem kbi_lt (h : decide (x < y) = b) : pm_br (.if_icmp .lt o) aux pc (.int y :: .int x :: q) = some (bif b then aux else pc + 3, q) := by
  subst h
  rfl
theorem kbz_ge (h : decide (0 ≤ x) = b) : pm_br (.ifCond .ge o) aux pc (.int x :: q) = some (bif b then aux else pc + 3, q) := by
  subst h
  rfl
theorem kbi_ge (h : decide (y ≤ x) = b) : pm_br (.if_icmp .ge o) aux pc (.int y :: .int x :: q) = some (bif b then aux else pc + 3, q) := by
  subst h
  rfl
theorem kbz_gt (h : decide (0 < x) = b) : pm_br (.ifCond .gt o) aux pc (.int x :: q) = some (bif b then aux else pc + 3, q) := by
  subst h
  rfl
theorem kbi_gt (h : decide (y < x) = b) : pm_br (.if_icmp .gt o) aux pc (.int y :: .int x :: q) = some (bif b then aux else pc + 3, q) := by
  subst h
  rfl
theorem kbz_le (h : decide (x ≤ 0) = b) : pm_br (.ifCond .le o) aux pc (.int x :: q) = some (bif b then aux else pc + 3, q) := by
  subst h
  rfl
theorem kbi_le (h : decide (x ≤ y) = b) : pm_br (.if_icmp .le o) aux pc (.int y :: .int x :: q) = some (bif b then aux else pc + 3, q) := by
  subst h
  rfl
theorem sa_iadd (h : x + y = z) : pm_alu .iadd (.int y :: .int x :: q) = some (.int z :: q) := by
  subst h
  rfl
theorem sa_isub (h : x - y = z) : pm_alu .isub (.int y :: .int x :: q) = some (.int z :: q) := by
  subst h
  rfl
theorem sa_imul (h : x * y = z) : pm_alu .imul (.int y :: .int x :: q) = some (.int z :: q) := by
  subst h
  rfl
theorem sa_iand (h : x &&& y = z) : pm_alu .iand (.int y :: .int x :: q) = some (.int z :: q) := by
  subst h
  rfl
theorem sa_ior (h : x ||| y = z) : pm_alu .ior (.int y :: .int x :: q) = some (.int z :: q) := by
  subst h
  rfl
theorem sa_ixor (h : x ^^^ y = z) : pm_alu .ixor (.int y :: .int x :: q) = some (.int z :: q) := by
  subst h
  rfl
theorem sa_ladd {x y z : Int64} (h : x + y = z) : pm_alu .ladd (.long y :: .long x :: q) = some (.long z :: q) := by
  subst h
  rfl
theorem sa_lsub {x y z : Int64} (h : x - y = z) : pm_alu .lsub (.long y :: .long x :: q) = some (.long z :: q) := by
  subst h
  rfl
theorem sa_land {x y z : Int64} (h : x &&& y = z) : pm_alu .land (.long y :: .long x :: q) = some (.long z :: q) := by
  subst h
  rfl
theorem sa_lor {x y z : Int64} (h : x ||| y = z) : pm_alu .lor (.long y :: .long x :: q) = some (.long z :: q) := by
  subst h
  rfl
theorem sa_i2l {w : Int64} (h : x.toInt64 = w) : pm_alu .i2l (.int x :: q) = some (.long w :: q) := by
  subst h
  rfl
theorem sa_lcmp {x y : Int64} (h : lg_cmp x y = z) : pm_alu .lcmp (.long y :: .long x :: q) = some (.int z :: q) := by
  subst h
  rfl
variable {a c : Int}
theorem sz_c {k : Int} (h : x.toInt = k) : x.toInt = k := h
theorem sz_cl {w : Int64} {k : Int} (h : w.toInt = k) : w.toInt = k := h
theorem sz_l (x : Int32) : x.toInt64.toInt = x.toInt := Int32.toInt_toInt64 x
theorem sd_ltt {b : Int} (hx : x.toInt = a) (hy : y.toInt = b) (h : a < b) : decide (x < y) = true := decide_eq_true (Int32.lt_iff_toInt_lt.mpr (by omega))
theorem sd_ltf {b : Int} (hx : x.toInt = a) (hy : y.toInt = b) (h : b ≤ a) : decide (x < y) = false := decide_eq_false fun q => by
  have := Int32.lt_iff_toInt_lt.mp q
  omega
theorem sd_let {b : Int} (hx : x.toInt = a) (hy : y.toInt = b) (h : a ≤ b) : decide (x ≤ y) = true := decide_eq_true (Int32.le_iff_toInt_le.mpr (by omega))
theorem sd_lef {b : Int} (hx : x.toInt = a) (hy : y.toInt = b) (h : b < a) : decide (x ≤ y) = false := decide_eq_false fun q => by
  have := Int32.le_iff_toInt_le.mp q
  omega
theorem sd_eqf {b : Int} (hx : x.toInt = a) (hy : y.toInt = b) (h : a ≠ b) : decide (x = y) = false := decide_eq_false fun q => by
  subst q
  omega
theorem sc_lt {x y : Int64} {b : Int} (hx : x.toInt = a) (hy : y.toInt = b) (h : a < b) : lg_cmp x y = -1 := by
  have h1 : ¬ x > y := fun q => by
    have := Int64.lt_iff_toInt_lt.mp q
    omega
  have h2 : ¬ x = y := fun q => by
    subst q
    omega
  unfold lg_cmp
  rw [if_neg h1, if_neg h2]
theorem sc_gt {x y : Int64} {b : Int} (hx : x.toInt = a) (hy : y.toInt = b) (h : b < a) : lg_cmp x y = 1 := by
  have h1 : x > y := Int64.lt_iff_toInt_lt.mpr (by omega)
  unfold lg_cmp
  rw [if_pos h1]
theorem sr_z {v : Option Value} {kd : Nat} {ins : Instr} {st : List Value} (h : pm_ret kd ins st = some v) : pm_ret kd ins st = some v := h
theorem sb_ts {d lo hi : Int} {offs : _} {t : Nat} (hx : x.toInt < lo ∨ hi < x.toInt) (ht : pm_tgt pc d = some t) : pm_br (.tableswitch d lo hi offs) aux pc (.int x :: q) = some (t, q) := by
  have e : (decide (x.toInt < lo) || decide (hi < x.toInt)) = true := by
    rcases hx with h | h
    · rw [decide_eq_true h]
      rfl
    · rw [decide_eq_true h]
      exact Bool.or_true _
  show (bif decide (x.toInt < lo) || decide (hi < x.toInt) then (match pm_tgt pc d with
    | some t => some (t, q)
    | none => none) else _) = _
  rw [e, ht]
  rfl
/-- a number within bounds is one of them -/
theorem sx_c {k : Nat} (hk : k < 2147483648) (h : x.toInt = (k : Int)) : x = fo_i k := by
  apply Int32.toBitVec_inj.mp
  apply BitVec.eq_of_toInt_eq
  have e : (fo_i k).toBitVec.toInt = (k : Int) := by
    show (BitVec.ofNat 32 k).toInt = _
    rw [BitVec.toInt_eq_toNat_cond, BitVec.toNat_ofNat]
    have e2 : k % 2 ^ 32 = k := Nat.mod_eq_of_lt (by omega)
    rw [e2]
    split <;> omega
  rw [e]
  exact h
theorem sx_r {n : Nat} (hn : n < 2147483648) (h0 : 0 ≤ x.toInt) (h1 : x.toInt < (n : Int)) : ∃ k, k < n ∧ x = fo_i k := ⟨x.toInt.toNat, by omega, sx_c (by omega) (by omega)⟩
end SYV
theorem kS_mk {d jx jm : Nat} {b : Bool} {as : List Value} {v w : Value} (h1 : pm_Rd kK false d jx (.ref 0 :: as) kH0 (some v, kH0, 0, 0)) (h2 : pm_Rd kK false d jm (.ref 170 :: as) kH0 (some w, kH0, 0, 0)) (e : v = w) (hI : kisI b v = true) (h5 : ∃ fs, pm_at kH0 170 = some (.inr (13, fs))) : kSame d b jx jm as kH0 := by
  subst e
  exact ⟨v, kH0, kH0, 0, 0, 0, 0, h1, h2, by decide, by decide, h5, kisI_ok hI⟩
