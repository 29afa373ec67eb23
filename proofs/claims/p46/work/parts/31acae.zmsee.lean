/-! the reference: who SEES what, by W; printed by wip/z/z_c_see.py -/
/-- i steps from a toward b -/
def zstp (a b i : Nat) : Nat := if a ≤ b then min (a + i) b else max (a - i) b
theorem zstp_0 {a b : Nat} : zstp a b 0 = a := by unfold zstp; split <;> omega
theorem zstp_lt {a b i N : Nat} (ha : a < N) (hb : b < N) : zstp a b i < N := by unfold zstp; split <;> omega
theorem zstp_f {a b i N : Nat} (ha : a < N) (hb : b < N) (hi : N ≤ i + 1) : zstp a b i = b := by unfold zstp; split <;> omega
theorem zstp_s {a b i : Nat} {d s : Int} (hd : d = (b : Int) - (zstp a b i : Nat)) (hs : (d < 0 ∧ s = -1) ∨ (d = 0 ∧ s = 0) ∨ (0 < d ∧ s = 1)) : ((zstp a b i : Nat) : Int) + s = ((zstp a b (i + 1) : Nat) : Int) := by
  unfold zstp at hd ⊢
  split at hd
  · next h => simp only [if_pos h]; omega
  · next h => simp only [if_neg h]; omega
/-- the FIELD that one comes to after i steps from a to g -/
def zpos (C a g i : Nat) : Nat := C * zstp (a / C) (g / C) i + zstp (a % C) (g % C) i
theorem zC_eq {C r c g : Nat} (hC : 0 < C) (hc : c < C) : C * r + c = g ↔ r = g / C ∧ c = g % C := by
  constructor
  · intro h
    subst h
    rw [Nat.mul_add_div hC, Nat.div_eq_of_lt hc, Nat.mul_add_mod, Nat.mod_eq_of_lt hc]
    exact ⟨by omega, rfl⟩
  · rintro ⟨rfl, rfl⟩
    exact Nat.div_add_mod g C
theorem zpos_f {R C a g i : Nat} (hC : 0 < C) (hC7 : C ≤ 7) (hR7 : R ≤ 7) (ha : a < R * C) (hg : g < R * C) (hi : 6 ≤ i) : zpos C a g i = g := by
  have h1 : a / C < R := (Nat.div_lt_iff_lt_mul hC).mpr ha
  have h2 : g / C < R := (Nat.div_lt_iff_lt_mul hC).mpr hg
  have h3 := Nat.mod_lt a hC
  have h4 := Nat.mod_lt g hC
  unfold zpos
  rw [zstp_f h1 h2 (by omega), zstp_f h3 h4 (by omega)]
  exact Nat.div_add_mod g C
theorem zpos_lt {R C a g i : Nat} (hC : 0 < C) (ha : a < R * C) (hg : g < R * C) : zpos C a g i < R * C := by
  have h1 : a / C < R := (Nat.div_lt_iff_lt_mul hC).mpr ha
  have h2 : g / C < R := (Nat.div_lt_iff_lt_mul hC).mpr hg
  have h5 := zstp_lt (i := i) h1 h2
  have h6 := zstp_lt (i := i) (Nat.mod_lt a hC) (Nat.mod_lt g hC)
  unfold zpos
  have h7 : C * (zstp (a / C) (g / C) i + 1) ≤ C * R := Nat.mul_le_mul_left C h5
  rw [Nat.mul_add, Nat.mul_comm C R] at h7
  omega
theorem zpos_s {C a g i : Nat} (hC : 0 < C) (h : zpos C a g i = g) : zpos C a g (i + 1) = g := by
  have h6 : zstp (a % C) (g % C) i < C := zstp_lt (Nat.mod_lt a hC) (Nat.mod_lt g hC)
  obtain ⟨e1, e2⟩ := (zC_eq hC h6).mp h
  have k : ∀ a b : Nat, zstp a b i = b → zstp a b (i + 1) = b := fun a b h => by
    unfold zstp at h ⊢
    split at h
    · next q => rw [if_pos q]; omega
    · next q => rw [if_neg q]; omega
  unfold zpos
  rw [k _ _ e1, k _ _ e2]
  exact Nat.div_add_mod g C
/-- none of the FIELDS between is a rock, i of them -/
def zclr (C : Nat) (rk : Nat → Bool) (a g : Nat) : Nat → Bool
  | 0 => true
  | i + 1 => zclr C rk a g i && (decide (zpos C a g (i + 1) = g) || !rk (zpos C a g (i + 1)))
theorem zclr_e {C : Nat} {rk : Nat → Bool} {a g i : Nat} (hC : 0 < C) (h : zpos C a g i = g) (k : Nat) : zclr C rk a g (i + k) = zclr C rk a g i ∧ zpos C a g (i + k) = g := by
  induction k with
  | zero => exact ⟨rfl, h⟩
  | succ k ih =>
    have e := zpos_s hC ih.2
    refine ⟨?_, e⟩
    show (zclr C rk a g (i + k) && (decide (zpos C a g (i + k + 1) = g) || !rk (zpos C a g (i + k + 1)))) = _
    rw [ih.1, e]
    simp
/-- of 0 up, 1 .. 7 round -/
def zway (d r : Int) : Nat := if 2 * r.natAbs < d.natAbs then (if d < 0 then 0 else 4) else if 2 * d.natAbs < r.natAbs then (if r < 0 then 6 else 2) else if d < 0 then (if r < 0 then 7 else 1) else if r < 0 then 5 else 3
theorem zway_lt {d r : Int} : zway d r < 8 := by
  unfold zway
  repeat' split
  all_goals omega
/-- eighths between two -/
def ze8 (a b : Nat) : Nat := min ((a : Int) - b).natAbs (8 - ((a : Int) - b).natAbs)
/-- one on the FIELD a SEES the FIELD g -/
def zsee (C : Nat) (rk : Nat → Bool) (a g fc br re : Nat) : Bool := decide (a = g) || (decide (max (((g / C : Nat) : Int) - (a / C : Nat)).natAbs (((g % C : Nat) : Int) - (a % C : Nat)).natAbs ≤ re) && (decide (ze8 (zway (((g / C : Nat) : Int) - (a / C : Nat)) (((g % C : Nat) : Int) - (a % C : Nat))) fc + br ≤ 4) && zclr C rk a g 7))
theorem zsgn : ∀ k : Nat, k < 121 → ((Int32.ofInt ((k : Int) - 60) >>> (31 &&& 31)) ||| ((-(Int32.ofInt ((k : Int) - 60))).toUInt32 >>> ((31 : Int32).toUInt32 &&& Int32.toUInt32 31)).toInt32).toInt = Int.sign ((k : Int) - 60) := by decide
theorem zj_sgn {x : Int32} {ph : pm_H} {d : Int} (hx : x.toInt = d) (h1 : -60 ≤ d) (h2 : d ≤ 60) : zM 304 [.int x] ph (fun v q => ph = q ∧ ∃ z : Int32, v = some (.int z) ∧ ((d < 0 ∧ z.toInt = -1) ∨ (d = 0 ∧ z.toInt = 0) ∨ (0 < d ∧ z.toInt = 1))) := by
  obtain ⟨Q, hQ⟩ : ∃ Q : Option Value → pm_H → Prop, Q = (fun v q => ph = q ∧ ∃ z : Int32, v = some (.int z) ∧ ((d < 0 ∧ z.toInt = -1) ∨ (d = 0 ∧ z.toInt = 0) ∨ (0 < d ∧ z.toInt = 1))) := ⟨_, rfl⟩
  rw [← hQ]
  refine zM_mk fun n D => ?_
  show zW n D 304 Q 0 [some (.int x)] [] ph
  have c_0 : ((Int8.ofInt 31).toInt32).toInt = 31 := by decide +kernel
  obtain ⟨k, hk⟩ : ∃ k : Nat, d = (k : Int) - 60 := ⟨(d + 60).toNat, by omega⟩
  have hs := zsgn k (by omega)
  have ex : x = Int32.ofInt ((k : Int) - 60) := Int32.toInt_inj.mp (by rw [hx, hk, Int32.toInt_ofInt_of_le (by omega) (by omega)])
  rw [← ex] at hs
  refine w_load (pc' := 1) (v := .int x) (m := 1) (ykc_304 (e := (2, .iload_n kF0, 0)) rfl) rfl rfl ?_
  refine w_push (pc' := 3) (v := .int ((Int8.ofInt 31).toInt32)) (m := 2) (ykc_304 (e := (1, .bipush 31, 0)) rfl) rfl rfl ?_
  refine w_alu (pc' := 4) (st' := [.int (x >>> (((Int8.ofInt 31).toInt32) &&& 31))]) (ykc_304 (e := (0, .ishr, 0)) rfl) rfl rfl ?_
  refine w_load (pc' := 5) (v := .int x) (m := 1) (ykc_304 (e := (2, .iload_n kF0, 0)) rfl) rfl rfl ?_
  refine w_alu (pc' := 6) (st' := [.int (-x), .int (x >>> (((Int8.ofInt 31).toInt32) &&& 31))]) (ykc_304 (e := (0, .ineg, 0)) rfl) rfl rfl ?_
  refine w_push (pc' := 8) (v := .int ((Int8.ofInt 31).toInt32)) (m := 2) (ykc_304 (e := (1, .bipush 31, 0)) rfl) rfl rfl ?_
  refine w_alu (pc' := 9) (st' := [.int (((-x).toUInt32 >>> (((Int8.ofInt 31).toInt32).toUInt32 &&& Int32.toUInt32 31)).toInt32), .int (x >>> (((Int8.ofInt 31).toInt32) &&& 31))]) (ykc_304 (e := (0, .iushr, 0)) rfl) rfl rfl ?_
  refine w_alu (pc' := 10) (st' := [.int ((x >>> (((Int8.ofInt 31).toInt32) &&& 31)) ||| (((-x).toUInt32 >>> (((Int8.ofInt 31).toInt32).toUInt32 &&& Int32.toUInt32 31)).toInt32))]) (ykc_304 (e := (0, .ior, 0)) rfl) rfl rfl ?_
  refine w_ret (v := (some (.int ((x >>> (((Int8.ofInt 31).toInt32) &&& 31)) ||| (((-x).toUInt32 >>> (((Int8.ofInt 31).toInt32).toUInt32 &&& Int32.toUInt32 31)).toInt32))))) (ykc_304 (e := (7, .ireturn, 0)) rfl) (zr_v rfl) ?_
  rw [hQ]
  refine ⟨rfl, _, rfl, ?_⟩
  rw [show ((x >>> (((Int8.ofInt 31).toInt32) &&& 31)) ||| (((-x).toUInt32 >>> (((Int8.ofInt 31).toInt32).toUInt32 &&& Int32.toUInt32 31)).toInt32)) = ((x >>> (31 &&& 31)) ||| ((-x).toUInt32 >>> ((31 : Int32).toUInt32 &&& Int32.toUInt32 31)).toInt32) from rfl, hs]
  rcases Int.lt_trichotomy d 0 with h | h | h
  · exact Or.inl ⟨h, by rw [← hk]; exact Int.sign_eq_neg_one_of_neg h⟩
  · exact Or.inr (Or.inl ⟨h, by rw [← hk, h]; rfl⟩)
  · exact Or.inr (Or.inr ⟨h, by rw [← hk]; exact Int.sign_eq_one_of_pos h⟩)
theorem zm_way {x y : Int32} {ph : pm_H} {d r : Int} (hx : x.toInt = d) (hy : y.toInt = r) (b1 : -60 ≤ d) (b2 : d ≤ 60) (b3 : -60 ≤ r) (b4 : r ≤ 60) : zM 221 [.int x, .int y] ph (fun v q => ph = q ∧ v = some (.int (zn (zway d r)))) := by
  obtain ⟨Q, hQ⟩ : ∃ Q : Option Value → pm_H → Prop, Q = (fun v q => ph = q ∧ v = some (.int (zn (zway d r)))) := ⟨_, rfl⟩
  rw [← hQ]
  refine zM_mk fun n D => ?_
  show zW n D 221 Q 0 [some (.int x), some (.int y)] [] ph
  have c_0 : ((Int8.ofInt 6).toInt32).toInt = 6 := by decide +kernel
  have c_1 : ((Int8.ofInt 7).toInt32).toInt = 7 := by decide +kernel
  have c_2 : (Int32.ofInt 0).toInt = 0 := by decide +kernel
  have c_3 : (Int32.ofInt 1).toInt = 1 := by decide +kernel
  have c_4 : (Int32.ofInt 2).toInt = 2 := by decide +kernel
  have c_5 : (Int32.ofInt 3).toInt = 3 := by decide +kernel
  have c_6 : (Int32.ofInt 4).toInt = 4 := by decide +kernel
  have c_7 : (Int32.ofInt 5).toInt = 5 := by decide +kernel
  refine w_load (pc' := 1) (v := .int x) (m := 1) (ykc_221 (e := (2, .iload_n kF0, 0)) rfl) rfl rfl ?_
  obtain ⟨z17, e_z17⟩ : ∃ zq : Int32, (if 0 ≤ x then x else 0 - x) = zq := ⟨_, rfl⟩
  have h_z17 := zabsI e_z17
  refine w_mem1 (pc' := 4) (m := 3) (st' := [.int z17]) (ph' := ph) (ykc_221 (e := (5, .invokestatic 276, 0)) rfl) (by rw [← e_z17]; rfl) rfl ?_
  refine w_alu (pc' := 5) (st' := [.int (Int32.ofInt 2), .int z17]) (ykc_221 (e := (0, .iconst 2, 0)) rfl) rfl rfl ?_
  refine w_load (pc' := 6) (v := .int y) (m := 1) (ykc_221 (e := (2, .iload_n kF1, 0)) rfl) rfl rfl ?_
  obtain ⟨z18, e_z18⟩ : ∃ zq : Int32, (if 0 ≤ y then y else 0 - y) = zq := ⟨_, rfl⟩
  have h_z18 := zabsI e_z18
  refine w_mem1 (pc' := 9) (m := 3) (st' := [.int z18, .int (Int32.ofInt 2), .int z17]) (ph' := ph) (ykc_221 (e := (5, .invokestatic 276, 0)) rfl) (by rw [← e_z18]; rfl) rfl ?_
  obtain ⟨z19, e_z19, h_z19⟩ : ∃ zq : Int32, (Int32.ofInt 2) * z18 = zq ∧ zq.toInt = (2 : Int) * z18.toInt := ⟨_, rfl, (by rw [ti_mul (by rw [show (Int32.ofInt 2).toInt = (2 : Int) by omega, show z18.toInt = z18.toInt by omega]; omega) (by rw [show (Int32.ofInt 2).toInt = (2 : Int) by omega, show z18.toInt = z18.toInt by omega]; omega), show (Int32.ofInt 2).toInt = (2 : Int) by omega, show z18.toInt = z18.toInt by omega] <;> omega)⟩
  refine w_alu (pc' := 10) (st' := [.int z19, .int z17]) (ykc_221 (e := (0, .imul, 0)) rfl) (by rw [← e_z19]; rfl) rfl ?_
  refine w_ile (ykc_221 (e := (4, .if_icmp .le 13, 23)) rfl) rfl (fun b20 => ?_) (fun b20 => ?_)
  · refine w_load (pc' := 24) (v := .int y) (m := 1) (ykc_221 (e := (2, .iload_n kF1, 0)) rfl) rfl rfl ?_
    obtain ⟨z21, e_z21⟩ : ∃ zq : Int32, (if 0 ≤ y then y else 0 - y) = zq := ⟨_, rfl⟩
    have h_z21 := zabsI e_z21
    refine w_mem1 (pc' := 27) (m := 3) (st' := [.int z21]) (ph' := ph) (ykc_221 (e := (5, .invokestatic 276, 0)) rfl) (by rw [← e_z21]; rfl) rfl ?_
    refine w_alu (pc' := 28) (st' := [.int (Int32.ofInt 2), .int z21]) (ykc_221 (e := (0, .iconst 2, 0)) rfl) rfl rfl ?_
    refine w_load (pc' := 29) (v := .int x) (m := 1) (ykc_221 (e := (2, .iload_n kF0, 0)) rfl) rfl rfl ?_
    obtain ⟨z22, e_z22⟩ : ∃ zq : Int32, (if 0 ≤ x then x else 0 - x) = zq := ⟨_, rfl⟩
    have h_z22 := zabsI e_z22
    refine w_mem1 (pc' := 32) (m := 3) (st' := [.int z22, .int (Int32.ofInt 2), .int z21]) (ph' := ph) (ykc_221 (e := (5, .invokestatic 276, 0)) rfl) (by rw [← e_z22]; rfl) rfl ?_
    obtain ⟨z23, e_z23, h_z23⟩ : ∃ zq : Int32, (Int32.ofInt 2) * z22 = zq ∧ zq.toInt = (2 : Int) * z22.toInt := ⟨_, rfl, (by rw [ti_mul (by rw [show (Int32.ofInt 2).toInt = (2 : Int) by omega, show z22.toInt = z22.toInt by omega]; omega) (by rw [show (Int32.ofInt 2).toInt = (2 : Int) by omega, show z22.toInt = z22.toInt by omega]; omega), show (Int32.ofInt 2).toInt = (2 : Int) by omega, show z22.toInt = z22.toInt by omega] <;> omega)⟩
    refine w_alu (pc' := 33) (st' := [.int z23, .int z21]) (ykc_221 (e := (0, .imul, 0)) rfl) (by rw [← e_z23]; rfl) rfl ?_
    refine w_ile (ykc_221 (e := (4, .if_icmp .le 14, 47)) rfl) rfl (fun b24 => ?_) (fun b24 => ?_)
    · refine w_load (pc' := 48) (v := .int x) (m := 1) (ykc_221 (e := (2, .iload_n kF0, 0)) rfl) rfl rfl ?_
      refine w_zge (ykc_221 (e := (4, .ifCond .ge 16, 64)) rfl) rfl (fun b25 => ?_) (fun b25 => ?_)
      · refine w_load (pc' := 65) (v := .int y) (m := 1) (ykc_221 (e := (2, .iload_n kF1, 0)) rfl) rfl rfl ?_
        refine w_zge (ykc_221 (e := (4, .ifCond .ge 7, 72)) rfl) rfl (fun b26 => ?_) (fun b26 => ?_)
        · refine w_alu (pc' := 73) (st' := [.int (Int32.ofInt 3)]) (ykc_221 (e := (0, .iconst 3, 0)) rfl) rfl rfl ?_
          refine w_ret (v := (some (.int (Int32.ofInt 3)))) (ykc_221 (e := (7, .ireturn, 0)) rfl) (zr_v rfl) ?_
          rw [hQ]
          exact ⟨rfl, by rw [zn_of (x := Int32.ofInt 3) (k := zway d r) (by unfold zway; (repeat' split) <;> omega)]⟩
        · refine w_alu (pc' := 69) (st' := [.int (Int32.ofInt 5)]) (ykc_221 (e := (0, .iconst 5, 0)) rfl) rfl rfl ?_
          refine w_br (pc' := 73) (st' := [.int (Int32.ofInt 5)]) (ykc_221 (e := (4, .goto 4, 73)) rfl) rfl ?_
          refine w_ret (v := (some (.int (Int32.ofInt 5)))) (ykc_221 (e := (7, .ireturn, 0)) rfl) (zr_v rfl) ?_
          rw [hQ]
          exact ⟨rfl, by rw [zn_of (x := Int32.ofInt 5) (k := zway d r) (by unfold zway; (repeat' split) <;> omega)]⟩
      · refine w_load (pc' := 52) (v := .int y) (m := 1) (ykc_221 (e := (2, .iload_n kF1, 0)) rfl) rfl rfl ?_
        refine w_zge (ykc_221 (e := (4, .ifCond .ge 8, 60)) rfl) rfl (fun b27 => ?_) (fun b27 => ?_)
        · refine w_alu (pc' := 61) (st' := [.int (Int32.ofInt 1)]) (ykc_221 (e := (0, .iconst 1, 0)) rfl) rfl rfl ?_
          refine w_br (pc' := 73) (st' := [.int (Int32.ofInt 1)]) (ykc_221 (e := (4, .goto 12, 73)) rfl) rfl ?_
          refine w_ret (v := (some (.int (Int32.ofInt 1)))) (ykc_221 (e := (7, .ireturn, 0)) rfl) (zr_v rfl) ?_
          rw [hQ]
          exact ⟨rfl, by rw [zn_of (x := Int32.ofInt 1) (k := zway d r) (by unfold zway; (repeat' split) <;> omega)]⟩
        · refine w_push (pc' := 57) (v := .int ((Int8.ofInt 7).toInt32)) (m := 2) (ykc_221 (e := (1, .bipush 7, 0)) rfl) rfl rfl ?_
          refine w_br (pc' := 73) (st' := [.int ((Int8.ofInt 7).toInt32)]) (ykc_221 (e := (4, .goto 16, 73)) rfl) rfl ?_
          refine w_ret (v := (some (.int ((Int8.ofInt 7).toInt32)))) (ykc_221 (e := (7, .ireturn, 0)) rfl) (zr_v rfl) ?_
          rw [hQ]
          exact ⟨rfl, by rw [zn_of (x := (Int8.ofInt 7).toInt32) (k := zway d r) (by unfold zway; (repeat' split) <;> omega)]⟩
    · refine w_load (pc' := 37) (v := .int y) (m := 1) (ykc_221 (e := (2, .iload_n kF1, 0)) rfl) rfl rfl ?_
      refine w_zge (ykc_221 (e := (4, .ifCond .ge 8, 45)) rfl) rfl (fun b28 => ?_) (fun b28 => ?_)
      · refine w_alu (pc' := 46) (st' := [.int (Int32.ofInt 2)]) (ykc_221 (e := (0, .iconst 2, 0)) rfl) rfl rfl ?_
        refine w_ret (v := (some (.int (Int32.ofInt 2)))) (ykc_221 (e := (7, .ireturn, 0)) rfl) (zr_v rfl) ?_
        rw [hQ]
        exact ⟨rfl, by rw [zn_of (x := Int32.ofInt 2) (k := zway d r) (by unfold zway; (repeat' split) <;> omega)]⟩
      · refine w_push (pc' := 42) (v := .int ((Int8.ofInt 6).toInt32)) (m := 2) (ykc_221 (e := (1, .bipush 6, 0)) rfl) rfl rfl ?_
        refine w_br (pc' := 46) (st' := [.int ((Int8.ofInt 6).toInt32)]) (ykc_221 (e := (4, .goto 4, 46)) rfl) rfl ?_
        refine w_ret (v := (some (.int ((Int8.ofInt 6).toInt32)))) (ykc_221 (e := (7, .ireturn, 0)) rfl) (zr_v rfl) ?_
        rw [hQ]
        exact ⟨rfl, by rw [zn_of (x := (Int8.ofInt 6).toInt32) (k := zway d r) (by unfold zway; (repeat' split) <;> omega)]⟩
  · refine w_load (pc' := 14) (v := .int x) (m := 1) (ykc_221 (e := (2, .iload_n kF0, 0)) rfl) rfl rfl ?_
    refine w_zge (ykc_221 (e := (4, .ifCond .ge 7, 21)) rfl) rfl (fun b29 => ?_) (fun b29 => ?_)
    · refine w_alu (pc' := 22) (st' := [.int (Int32.ofInt 4)]) (ykc_221 (e := (0, .iconst 4, 0)) rfl) rfl rfl ?_
      refine w_ret (v := (some (.int (Int32.ofInt 4)))) (ykc_221 (e := (7, .ireturn, 0)) rfl) (zr_v rfl) ?_
      rw [hQ]
      exact ⟨rfl, by rw [zn_of (x := Int32.ofInt 4) (k := zway d r) (by unfold zway; (repeat' split) <;> omega)]⟩
    · refine w_alu (pc' := 18) (st' := [.int (Int32.ofInt 0)]) (ykc_221 (e := (0, .iconst 0, 0)) rfl) rfl rfl ?_
      refine w_br (pc' := 22) (st' := [.int (Int32.ofInt 0)]) (ykc_221 (e := (4, .goto 4, 22)) rfl) rfl ?_
      refine w_ret (v := (some (.int (Int32.ofInt 0)))) (ykc_221 (e := (7, .ireturn, 0)) rfl) (zr_v rfl) ?_
      rw [hQ]
      exact ⟨rfl, by rw [zn_of (x := Int32.ofInt 0) (k := zway d r) (by unfold zway; (repeat' split) <;> omega)]⟩
theorem zm_e8 {x y : Int32} {ph : pm_H} {a b : Nat} (hx : x.toInt = (a : Int)) (hy : y.toInt = (b : Int)) (ha : a < 8) (hb : b < 8) : zM 222 [.int x, .int y] ph (fun v q => ph = q ∧ v = some (.int (zn (ze8 a b)))) := by
  obtain ⟨Q, hQ⟩ : ∃ Q : Option Value → pm_H → Prop, Q = (fun v q => ph = q ∧ v = some (.int (zn (ze8 a b)))) := ⟨_, rfl⟩
  rw [← hQ]
  refine zM_mk fun n D => ?_
  show zW n D 222 Q 0 [some (.int x), some (.int y), none] [] ph
  have c_0 : ((Int8.ofInt 8).toInt32).toInt = 8 := by decide +kernel
  refine w_load (pc' := 1) (v := .int x) (m := 1) (ykc_222 (e := (2, .iload_n kF0, 0)) rfl) rfl rfl ?_
  refine w_load (pc' := 2) (v := .int y) (m := 1) (ykc_222 (e := (2, .iload_n kF1, 0)) rfl) rfl rfl ?_
  obtain ⟨z30, e_z30, h_z30⟩ : ∃ zq : Int32, x - y = zq ∧ zq.toInt = ((a : Nat) : Int) - ((b : Nat) : Int) := ⟨_, rfl, (by have := ti_sub (x := x) (y := y) (by omega) (by omega); omega)⟩
  refine w_alu (pc' := 3) (st' := [.int z30]) (ykc_222 (e := (0, .isub, 0)) rfl) (by rw [← e_z30]; rfl) rfl ?_
  obtain ⟨z31, e_z31⟩ : ∃ zq : Int32, (if 0 ≤ z30 then z30 else 0 - z30) = zq := ⟨_, rfl⟩
  have h_z31 := zabsI e_z31
  refine w_mem1 (pc' := 6) (m := 3) (st' := [.int z31]) (ph' := ph) (ykc_222 (e := (5, .invokestatic 276, 0)) rfl) (by rw [← e_z31]; rfl) rfl ?_
  refine w_store (pc' := 7) (L' := [some (.int x), some (.int y), some (.int z31)]) (st' := []) (m := 1) (ykc_222 (e := (3, .istore_n kF2, 0)) rfl) rfl rfl ?_
  refine w_load (pc' := 8) (v := .int z31) (m := 1) (ykc_222 (e := (2, .iload_n kF2, 0)) rfl) rfl rfl ?_
  refine w_push (pc' := 10) (v := .int ((Int8.ofInt 8).toInt32)) (m := 2) (ykc_222 (e := (1, .bipush 8, 0)) rfl) rfl rfl ?_
  refine w_load (pc' := 11) (v := .int z31) (m := 1) (ykc_222 (e := (2, .iload_n kF2, 0)) rfl) rfl rfl ?_
  obtain ⟨z32, e_z32, h_z32⟩ : ∃ zq : Int32, ((Int8.ofInt 8).toInt32) - z31 = zq ∧ zq.toInt = (8 : Int) - z31.toInt := ⟨_, rfl, (by have := ti_sub (x := ((Int8.ofInt 8).toInt32)) (y := z31) (by omega) (by omega); omega)⟩
  refine w_alu (pc' := 12) (st' := [.int z32, .int z31]) (ykc_222 (e := (0, .isub, 0)) rfl) (by rw [← e_z32]; rfl) rfl ?_
  obtain ⟨z33, e_z33⟩ : ∃ zq : Int32, (if z32 < z31 then z32 else z31) = zq := ⟨_, rfl⟩
  have h_z33 := zminI e_z33
  refine w_mem1 (pc' := 15) (m := 3) (st' := [.int z33]) (ph' := ph) (ykc_222 (e := (5, .invokestatic 145, 0)) rfl) (by rw [← e_z33]; rfl) rfl ?_
  refine w_ret (v := (some (.int z33))) (ykc_222 (e := (7, .ireturn, 0)) rfl) (zr_v rfl) ?_
  rw [hQ]
  exact ⟨rfl, by rw [zn_of (x := z33) (k := ze8 a b) (by unfold ze8; omega)]⟩
theorem zm_clear {ph : pm_H} {R C : Nat} {rk : Nat → Bool} (hS : zSh ph) (hL : zMl ph R C rk) {x y : Int32} {a g : Nat} (hx : x.toInt = (a : Int)) (hy : y.toInt = (g : Int)) (ha : a < R * C) (hg : g < R * C) : zM 223 [.ref 170, .int x, .int y] ph (fun v q => ph = q ∧ v = some (.int (zI (zclr C rk a g 7)))) := by
  obtain ⟨Q, hQ⟩ : ∃ Q : Option Value → pm_H → Prop, Q = (fun v q => ph = q ∧ v = some (.int (zI (zclr C rk a g 7)))) := ⟨_, rfl⟩
  rw [← hQ]
  refine zM_mk fun n D => ?_
  show zW n D 223 Q 0 [some (.ref 170), some (.int x), some (.int y), none, none, none, none] [] ph
  have c_0 : (Int32.ofInt 0).toInt = 0 := by decide +kernel
  have c_1 : (Int32.ofInt 1).toInt = 1 := by decide +kernel
  obtain ⟨gR, gC, gK, hR3, hR7, hC3, hC7⟩ := hL
  have hRC := zRC49 hR7 hC7
  have tR := znt (k := R) (by omega)
  have tC := znt (k := C) (by omega)
  have a1 : a / C < R := (Nat.div_lt_iff_lt_mul (by omega)).mpr ha
  have g1 : g / C < R := (Nat.div_lt_iff_lt_mul (by omega)).mpr hg
  have a2 := Nat.mod_lt a (show 0 < C by omega)
  have g2 := Nat.mod_lt g (show 0 < C by omega)
  have p1 := Nat.zero_le (a / C)
  have p2 := Nat.zero_le (g / C)
  have p3 := Nat.zero_le (a % C)
  have p4 := Nat.zero_le (g % C)
  refine w_load (pc' := 1) (v := .int x) (m := 1) (ykc_223 (e := (2, .iload_n kF1, 0)) rfl) rfl rfl ?_
  refine w_load (pc' := 2) (v := .ref 170) (m := 1) (ykc_223 (e := (2, .aload_n kF0, 0)) rfl) rfl rfl ?_
  refine w_gf (pc' := 5) (v := .int (zn C)) (ykc_223 (e := (5, .getfield 27, 0)) rfl) rfl gC rfl ?_
  refine w_idiv (pc' := 6) (ykc_223 (e := (0, .idiv, 0)) rfl) rfl (fun d34 => ?_)
  have e35 : x / (zn C) = zn (a / C) := zn_of (zdivN (by omega) (by omega) (by omega))
  have te35 := znt (k := a / C) (by omega)
  rw [e35]
  show zW n D 223 Q 6 [some (.ref 170), some (.int x), some (.int y), none, none, none, none] [.int (zn (a / C))] ph
  refine w_store (pc' := 7) (L' := [some (.ref 170), some (.int x), some (.int y), some (.int (zn (a / C))), none, none, none]) (st' := []) (m := 1) (ykc_223 (e := (3, .istore_n kF3, 0)) rfl) rfl rfl ?_
  refine w_load (pc' := 8) (v := .int x) (m := 1) (ykc_223 (e := (2, .iload_n kF1, 0)) rfl) rfl rfl ?_
  refine w_load (pc' := 9) (v := .ref 170) (m := 1) (ykc_223 (e := (2, .aload_n kF0, 0)) rfl) rfl rfl ?_
  refine w_gf (pc' := 12) (v := .int (zn C)) (ykc_223 (e := (5, .getfield 27, 0)) rfl) rfl gC rfl ?_
  refine w_irem (pc' := 13) (ykc_223 (e := (0, .irem, 0)) rfl) rfl (fun d36 => ?_)
  have e37 : x - x / (zn C) * (zn C) = zn (a % C) := zn_of (zremN (by omega) (by omega) (by omega))
  have te37 := znt (k := a % C) (by omega)
  rw [e37]
  show zW n D 223 Q 13 [some (.ref 170), some (.int x), some (.int y), some (.int (zn (a / C))), none, none, none] [.int (zn (a % C))] ph
  refine w_store (pc' := 15) (L' := [some (.ref 170), some (.int x), some (.int y), some (.int (zn (a / C))), some (.int (zn (a % C))), none, none]) (st' := []) (m := 2) (ykc_223 (e := (3, .istore 4, 0)) rfl) rfl rfl ?_
  refine w_alu (pc' := 16) (st' := [.int (Int32.ofInt 1)]) (ykc_223 (e := (0, .iconst 1, 0)) rfl) rfl rfl ?_
  refine w_store (pc' := 18) (L' := [some (.ref 170), some (.int x), some (.int y), some (.int (zn (a / C))), some (.int (zn (a % C))), some (.int (Int32.ofInt 1)), none]) (st' := []) (m := 2) (ykc_223 (e := (3, .istore 5, 0)) rfl) rfl rfl ?_
  refine w_alu (pc' := 19) (st' := [.int (Int32.ofInt 1)]) (ykc_223 (e := (0, .iconst 1, 0)) rfl) rfl rfl ?_
  refine w_store (pc' := 21) (L' := [some (.ref 170), some (.int x), some (.int y), some (.int (zn (a / C))), some (.int (zn (a % C))), some (.int (Int32.ofInt 1)), some (.int (Int32.ofInt 1))]) (st' := []) (m := 2) (ykc_223 (e := (3, .istore 6, 0)) rfl) rfl rfl ?_
  have hl : ∀ n (i : Nat) (r c : Int32), r.toInt = ((zstp (a / C) (g / C) i : Nat) : Int) → c.toInt = ((zstp (a % C) (g % C) i : Nat) : Int) → (0 < i → i ≤ 7) → zW n D 223 Q 21 [some (.ref 170), some (.int x), some (.int y), some (.int r), some (.int c), some (.int (zI (zclr C rk a g i))), some (.int (zI (decide (i = 0 ∨ zpos C a g i ≠ g))))] [] ph := by
    intro n
    induction n using Nat.strongRecOn with
    | ind n ih =>
      intro i r c hr hc hi
      have s1 := zstp_lt (i := i) a1 g1
      have s2 := zstp_lt (i := i) a2 g2
      have s3 := zstp_lt (i := i + 1) a1 g1
      have s4 := zstp_lt (i := i + 1) a2 g2
      refine w_load (pc' := 23) (v := .int (zI (decide (i = 0 ∨ zpos C a g i ≠ g)))) (m := 2) (ykc_223 (e := (2, .iload 6, 0)) rfl) rfl rfl ?_
      refine w_beq (ykc_223 (e := (4, .ifCond .eq 91, 114)) rfl) rfl (fun b38 => ?_) (fun b38 => ?_)
      · refine w_load (pc' := 116) (v := .int (zI (zclr C rk a g i))) (m := 2) (ykc_223 (e := (2, .iload 5, 0)) rfl) rfl rfl ?_
        refine w_ret (v := (some (.int (zI (zclr C rk a g i))))) (ykc_223 (e := (7, .ireturn, 0)) rfl) zr_z ?_
        rw [hQ]
        have q0 : i ≠ 0 ∧ zpos C a g i = g := by
          have := of_decide_eq_false b38
          constructor
          · intro e; exact this (Or.inl e)
          · exact Classical.byContradiction fun e => this (Or.inr e)
        have q1 := (zclr_e (rk := rk) (by omega) q0.2 (7 - i)).1
        rw [show i + (7 - i) = 7 by have := hi (by omega); omega] at q1
        exact ⟨rfl, zvB q1.symm⟩
      · refine w_load (pc' := 27) (v := .int r) (m := 1) (ykc_223 (e := (2, .iload_n kF3, 0)) rfl) rfl rfl ?_
        refine w_load (pc' := 28) (v := .int y) (m := 1) (ykc_223 (e := (2, .iload_n kF2, 0)) rfl) rfl rfl ?_
        refine w_load (pc' := 29) (v := .ref 170) (m := 1) (ykc_223 (e := (2, .aload_n kF0, 0)) rfl) rfl rfl ?_
        refine w_gf (pc' := 32) (v := .int (zn C)) (ykc_223 (e := (5, .getfield 27, 0)) rfl) rfl gC rfl ?_
        refine w_idiv (pc' := 33) (ykc_223 (e := (0, .idiv, 0)) rfl) rfl (fun d39 => ?_)
        have e40 : y / (zn C) = zn (g / C) := zn_of (zdivN (by omega) (by omega) (by omega))
        have te40 := znt (k := g / C) (by omega)
        rw [e40]
        show zW n D 223 Q 33 [some (.ref 170), some (.int x), some (.int y), some (.int r), some (.int c), some (.int (zI (zclr C rk a g i))), some (.int (zI (decide (i = 0 ∨ zpos C a g i ≠ g))))] [.int (zn (g / C)), .int r] ph
        refine w_load (pc' := 34) (v := .int r) (m := 1) (ykc_223 (e := (2, .iload_n kF3, 0)) rfl) rfl rfl ?_
        obtain ⟨z41, e_z41, h_z41⟩ : ∃ zq : Int32, (zn (g / C)) - r = zq ∧ zq.toInt = ((g / C : Nat) : Int) - ((zstp (a / C) (g / C) i : Nat) : Int) := ⟨_, rfl, (by have := ti_sub (x := (zn (g / C))) (y := r) (by omega) (by omega); omega)⟩
        refine w_alu (pc' := 35) (st' := [.int z41, .int r]) (ykc_223 (e := (0, .isub, 0)) rfl) (by rw [← e_z41]; rfl) rfl ?_
        refine w_cs (as := [.int z41]) (r := [.int r]) (ykc_223 (e := (6, .invokestatic 279, 0)) rfl) rfl rfl rfl rfl (zj_sgn (d := ((g / C : Nat) : Int) - ((zstp (a / C) (g / C) i : Nat) : Int)) (by omega) (by omega) (by omega)) (fun v43 ph44 hv => ?_)
        obtain ⟨rfl, g42, rfl, hs_g42⟩ := hv
        show zW n D 223 Q 38 [some (.ref 170), some (.int x), some (.int y), some (.int r), some (.int c), some (.int (zI (zclr C rk a g i))), some (.int (zI (decide (i = 0 ∨ zpos C a g i ≠ g))))] [.int g42, .int r] ph
        have e45 : r + g42 = zn (zstp (a / C) (g / C) (i + 1)) := zn_of (by have := ti_add (x := r) (y := g42) (by omega) (by omega); rw [this, hr]; exact zstp_s (by omega) hs_g42)
        have te45 := znt (k := zstp (a / C) (g / C) (i + 1)) (by omega)
        refine w_alu (pc' := 39) (st' := [.int (zn (zstp (a / C) (g / C) (i + 1)))]) (ykc_223 (e := (0, .iadd, 0)) rfl) (by rw [← e45]; rfl) rfl ?_
        refine w_store (pc' := 40) (L' := [some (.ref 170), some (.int x), some (.int y), some (.int (zn (zstp (a / C) (g / C) (i + 1)))), some (.int c), some (.int (zI (zclr C rk a g i))), some (.int (zI (decide (i = 0 ∨ zpos C a g i ≠ g))))]) (st' := []) (m := 1) (ykc_223 (e := (3, .istore_n kF3, 0)) rfl) rfl rfl ?_
        refine w_load (pc' := 42) (v := .int c) (m := 2) (ykc_223 (e := (2, .iload 4, 0)) rfl) rfl rfl ?_
        refine w_load (pc' := 43) (v := .int y) (m := 1) (ykc_223 (e := (2, .iload_n kF2, 0)) rfl) rfl rfl ?_
        refine w_load (pc' := 44) (v := .ref 170) (m := 1) (ykc_223 (e := (2, .aload_n kF0, 0)) rfl) rfl rfl ?_
        refine w_gf (pc' := 47) (v := .int (zn C)) (ykc_223 (e := (5, .getfield 27, 0)) rfl) rfl gC rfl ?_
        refine w_irem (pc' := 48) (ykc_223 (e := (0, .irem, 0)) rfl) rfl (fun d46 => ?_)
        have e47 : y - y / (zn C) * (zn C) = zn (g % C) := zn_of (zremN (by omega) (by omega) (by omega))
        have te47 := znt (k := g % C) (by omega)
        rw [e47]
        show zW n D 223 Q 48 [some (.ref 170), some (.int x), some (.int y), some (.int (zn (zstp (a / C) (g / C) (i + 1)))), some (.int c), some (.int (zI (zclr C rk a g i))), some (.int (zI (decide (i = 0 ∨ zpos C a g i ≠ g))))] [.int (zn (g % C)), .int c] ph
        refine w_load (pc' := 50) (v := .int c) (m := 2) (ykc_223 (e := (2, .iload 4, 0)) rfl) rfl rfl ?_
        obtain ⟨z48, e_z48, h_z48⟩ : ∃ zq : Int32, (zn (g % C)) - c = zq ∧ zq.toInt = ((g % C : Nat) : Int) - ((zstp (a % C) (g % C) i : Nat) : Int) := ⟨_, rfl, (by have := ti_sub (x := (zn (g % C))) (y := c) (by omega) (by omega); omega)⟩
        refine w_alu (pc' := 51) (st' := [.int z48, .int c]) (ykc_223 (e := (0, .isub, 0)) rfl) (by rw [← e_z48]; rfl) rfl ?_
        refine w_cs (as := [.int z48]) (r := [.int c]) (ykc_223 (e := (6, .invokestatic 279, 0)) rfl) rfl rfl rfl rfl (zj_sgn (d := ((g % C : Nat) : Int) - ((zstp (a % C) (g % C) i : Nat) : Int)) (by omega) (by omega) (by omega)) (fun v50 ph51 hv => ?_)
        obtain ⟨rfl, g49, rfl, hs_g49⟩ := hv
        show zW n D 223 Q 54 [some (.ref 170), some (.int x), some (.int y), some (.int (zn (zstp (a / C) (g / C) (i + 1)))), some (.int c), some (.int (zI (zclr C rk a g i))), some (.int (zI (decide (i = 0 ∨ zpos C a g i ≠ g))))] [.int g49, .int c] ph
        have e52 : c + g49 = zn (zstp (a % C) (g % C) (i + 1)) := zn_of (by have := ti_add (x := c) (y := g49) (by omega) (by omega); rw [this, hc]; exact zstp_s (by omega) hs_g49)
        have te52 := znt (k := zstp (a % C) (g % C) (i + 1)) (by omega)
        refine w_alu (pc' := 55) (st' := [.int (zn (zstp (a % C) (g % C) (i + 1)))]) (ykc_223 (e := (0, .iadd, 0)) rfl) (by rw [← e52]; rfl) rfl ?_
        refine w_store (pc' := 57) (L' := [some (.ref 170), some (.int x), some (.int y), some (.int (zn (zstp (a / C) (g / C) (i + 1)))), some (.int (zn (zstp (a % C) (g % C) (i + 1)))), some (.int (zI (zclr C rk a g i))), some (.int (zI (decide (i = 0 ∨ zpos C a g i ≠ g))))]) (st' := []) (m := 2) (ykc_223 (e := (3, .istore 4, 0)) rfl) rfl rfl ?_
        refine w_load (pc' := 58) (v := .ref 170) (m := 1) (ykc_223 (e := (2, .aload_n kF0, 0)) rfl) rfl rfl ?_
        refine w_gf (pc' := 61) (v := .int (zn C)) (ykc_223 (e := (5, .getfield 27, 0)) rfl) rfl gC rfl ?_
        refine w_load (pc' := 62) (v := .int (zn (zstp (a / C) (g / C) (i + 1)))) (m := 1) (ykc_223 (e := (2, .iload_n kF3, 0)) rfl) rfl rfl ?_
        have m53 : C * zstp (a / C) (g / C) (i + 1) ≤ 7 * 7 := Nat.mul_le_mul (by omega) (by omega)
        have zm53 := Nat.zero_le (C * zstp (a / C) (g / C) (i + 1))
        have e54 : (zn C) * (zn (zstp (a / C) (g / C) (i + 1))) = zn (C * zstp (a / C) (g / C) (i + 1)) := zn_of (zmulN (by omega) (by omega) (by omega) (by omega))
        have te54 := znt (k := C * zstp (a / C) (g / C) (i + 1)) (by omega)
        refine w_alu (pc' := 63) (st' := [.int (zn (C * zstp (a / C) (g / C) (i + 1)))]) (ykc_223 (e := (0, .imul, 0)) rfl) (by rw [← e54]; rfl) rfl ?_
        refine w_load (pc' := 65) (v := .int (zn (zstp (a % C) (g % C) (i + 1)))) (m := 2) (ykc_223 (e := (2, .iload 4, 0)) rfl) rfl rfl ?_
        have e55 : (zn (C * zstp (a / C) (g / C) (i + 1))) + (zn (zstp (a % C) (g % C) (i + 1))) = zn (C * zstp (a / C) (g / C) (i + 1) + (zstp (a % C) (g % C) (i + 1))) := (zaddN (a := C * zstp (a / C) (g / C) (i + 1)) (b := zstp (a % C) (g % C) (i + 1)) (znt (by omega)) (znt (by omega)) (by omega)) 
        have te55 := znt (k := C * zstp (a / C) (g / C) (i + 1) + (zstp (a % C) (g % C) (i + 1))) (by omega)
        refine w_alu (pc' := 66) (st' := [.int (zn (C * zstp (a / C) (g / C) (i + 1) + (zstp (a % C) (g % C) (i + 1))))]) (ykc_223 (e := (0, .iadd, 0)) rfl) (by rw [← e55]; rfl) rfl ?_
        refine w_load (pc' := 67) (v := .int y) (m := 1) (ykc_223 (e := (2, .iload_n kF2, 0)) rfl) rfl rfl ?_
        refine w_ieq (ykc_223 (e := (4, .if_icmp .eq 7, 74)) rfl) rfl (fun b56 => ?_) (fun b56 => ?_)
        · refine w_alu (pc' := 75) (st' := [.int (Int32.ofInt 0)]) (ykc_223 (e := (0, .iconst 0, 0)) rfl) rfl rfl ?_
          refine w_store (pc' := 77) (L' := [some (.ref 170), some (.int x), some (.int y), some (.int (zn (zstp (a / C) (g / C) (i + 1)))), some (.int (zn (zstp (a % C) (g % C) (i + 1)))), some (.int (zI (zclr C rk a g i))), some (.int (Int32.ofInt 0))]) (st' := []) (m := 2) (ykc_223 (e := (3, .istore 6, 0)) rfl) rfl rfl ?_
          refine w_load (pc' := 79) (v := .int (zI (zclr C rk a g i))) (m := 2) (ykc_223 (e := (2, .iload 5, 0)) rfl) rfl rfl ?_
          refine w_beq (ykc_223 (e := (4, .ifCond .eq 29, 108)) rfl) rfl (fun b57 => ?_) (fun b57 => ?_)
          · refine w_alu (pc' := 109) (st' := [.int (Int32.ofInt 0)]) (ykc_223 (e := (0, .iconst 0, 0)) rfl) rfl rfl ?_
            refine w_store (pc' := 111) (L' := [some (.ref 170), some (.int x), some (.int y), some (.int (zn (zstp (a / C) (g / C) (i + 1)))), some (.int (zn (zstp (a % C) (g % C) (i + 1)))), some (.int (Int32.ofInt 0)), some (.int (Int32.ofInt 0))]) (st' := []) (m := 2) (ykc_223 (e := (3, .istore 5, 0)) rfl) rfl rfl ?_
            refine w_gb (ykc_223 (e := (4, .goto (-90), 21)) rfl) (fun k58 hk58 => ?_)
            have ep : zpos C a g (i + 1) = g := by unfold zpos; omega
            have e5 : zclr C rk a g (i + 1) = false := by
              show (zclr C rk a g i && (decide (zpos C a g (i + 1) = g) || !rk (zpos C a g (i + 1)))) = _
              simp [b57, ep]
            have e6 : decide (i + 1 = 0 ∨ zpos C a g (i + 1) ≠ g) = false := by simp [ep]
            have i6 : i + 1 ≤ 7 := by
              refine Nat.succ_le_of_lt (Nat.lt_of_not_le fun q => ?_)
              have q2 := of_decide_eq_true b38
              rcases q2 with q2 | q2
              · omega
              · exact q2 (zpos_f (by omega) hC7 hR7 ha hg (by omega))
            have h9 := ih k58 hk58 (i + 1) (zn (zstp (a / C) (g / C) (i + 1))) (zn (zstp (a % C) (g % C) (i + 1))) (by omega) (by omega) (fun _ => i6)
            simp only [e5, e6, ← zi1, ← zi0] at h9
            exact h9
          · refine w_load (pc' := 84) (v := .int (Int32.ofInt 0)) (m := 2) (ykc_223 (e := (2, .iload 6, 0)) rfl) rfl rfl ?_
            refine w_zeq (ykc_223 (e := (4, .ifCond .eq 20, 104)) rfl) rfl (fun b59 => ?_) (fun q => by exfalso; omega)
            refine w_alu (pc' := 105) (st' := [.int (Int32.ofInt 1)]) (ykc_223 (e := (0, .iconst 1, 0)) rfl) rfl rfl ?_
            refine w_br (pc' := 109) (st' := [.int (Int32.ofInt 1)]) (ykc_223 (e := (4, .goto 4, 109)) rfl) rfl ?_
            refine w_store (pc' := 111) (L' := [some (.ref 170), some (.int x), some (.int y), some (.int (zn (zstp (a / C) (g / C) (i + 1)))), some (.int (zn (zstp (a % C) (g % C) (i + 1)))), some (.int (Int32.ofInt 1)), some (.int (Int32.ofInt 0))]) (st' := []) (m := 2) (ykc_223 (e := (3, .istore 5, 0)) rfl) rfl rfl ?_
            refine w_gb (ykc_223 (e := (4, .goto (-90), 21)) rfl) (fun k60 hk60 => ?_)
            have ep : zpos C a g (i + 1) = g := by unfold zpos; omega
            have e5 : zclr C rk a g (i + 1) = true := by
              show (zclr C rk a g i && (decide (zpos C a g (i + 1) = g) || !rk (zpos C a g (i + 1)))) = _
              simp [b57, ep]
            have e6 : decide (i + 1 = 0 ∨ zpos C a g (i + 1) ≠ g) = false := by simp [ep]
            have i6 : i + 1 ≤ 7 := by
              refine Nat.succ_le_of_lt (Nat.lt_of_not_le fun q => ?_)
              have q2 := of_decide_eq_true b38
              rcases q2 with q2 | q2
              · omega
              · exact q2 (zpos_f (by omega) hC7 hR7 ha hg (by omega))
            have h9 := ih k60 hk60 (i + 1) (zn (zstp (a / C) (g / C) (i + 1))) (zn (zstp (a % C) (g % C) (i + 1))) (by omega) (by omega) (fun _ => i6)
            simp only [e5, e6, ← zi1, ← zi0] at h9
            exact h9
        · refine w_alu (pc' := 71) (st' := [.int (Int32.ofInt 1)]) (ykc_223 (e := (0, .iconst 1, 0)) rfl) rfl rfl ?_
          refine w_br (pc' := 75) (st' := [.int (Int32.ofInt 1)]) (ykc_223 (e := (4, .goto 4, 75)) rfl) rfl ?_
          refine w_store (pc' := 77) (L' := [some (.ref 170), some (.int x), some (.int y), some (.int (zn (zstp (a / C) (g / C) (i + 1)))), some (.int (zn (zstp (a % C) (g % C) (i + 1)))), some (.int (zI (zclr C rk a g i))), some (.int (Int32.ofInt 1))]) (st' := []) (m := 2) (ykc_223 (e := (3, .istore 6, 0)) rfl) rfl rfl ?_
          refine w_load (pc' := 79) (v := .int (zI (zclr C rk a g i))) (m := 2) (ykc_223 (e := (2, .iload 5, 0)) rfl) rfl rfl ?_
          refine w_beq (ykc_223 (e := (4, .ifCond .eq 29, 108)) rfl) rfl (fun b61 => ?_) (fun b61 => ?_)
          · refine w_alu (pc' := 109) (st' := [.int (Int32.ofInt 0)]) (ykc_223 (e := (0, .iconst 0, 0)) rfl) rfl rfl ?_
            refine w_store (pc' := 111) (L' := [some (.ref 170), some (.int x), some (.int y), some (.int (zn (zstp (a / C) (g / C) (i + 1)))), some (.int (zn (zstp (a % C) (g % C) (i + 1)))), some (.int (Int32.ofInt 0)), some (.int (Int32.ofInt 1))]) (st' := []) (m := 2) (ykc_223 (e := (3, .istore 5, 0)) rfl) rfl rfl ?_
            refine w_gb (ykc_223 (e := (4, .goto (-90), 21)) rfl) (fun k62 hk62 => ?_)
            have ep : zpos C a g (i + 1) ≠ g := by unfold zpos; omega
            have e5 : zclr C rk a g (i + 1) = false := by
              show (zclr C rk a g i && (decide (zpos C a g (i + 1) = g) || !rk (zpos C a g (i + 1)))) = _
              simp [b61, ep]
            have e6 : decide (i + 1 = 0 ∨ zpos C a g (i + 1) ≠ g) = true := by simp [ep]
            have i6 : i + 1 ≤ 7 := by
              refine Nat.succ_le_of_lt (Nat.lt_of_not_le fun q => ?_)
              have q2 := of_decide_eq_true b38
              rcases q2 with q2 | q2
              · omega
              · exact q2 (zpos_f (by omega) hC7 hR7 ha hg (by omega))
            have h9 := ih k62 hk62 (i + 1) (zn (zstp (a / C) (g / C) (i + 1))) (zn (zstp (a % C) (g % C) (i + 1))) (by omega) (by omega) (fun _ => i6)
            simp only [e5, e6, ← zi1, ← zi0] at h9
            exact h9
          · refine w_load (pc' := 84) (v := .int (Int32.ofInt 1)) (m := 2) (ykc_223 (e := (2, .iload 6, 0)) rfl) rfl rfl ?_
            refine w_zeq (ykc_223 (e := (4, .ifCond .eq 20, 104)) rfl) rfl (fun q => by exfalso; omega) (fun b63 => ?_)
            have zp : C * zstp (a / C) (g / C) (i + 1) + zstp (a % C) (g % C) (i + 1) < R * C := zpos_lt (by omega) ha hg
            refine w_load (pc' := 88) (v := .ref 170) (m := 1) (ykc_223 (e := (2, .aload_n kF0, 0)) rfl) rfl rfl ?_
            refine w_gf (pc' := 91) (v := .ref 172) (ykc_223 (e := (5, .getfield 33, 0)) rfl) rfl (zsg hS zs_170_9) rfl ?_
            refine w_load (pc' := 92) (v := .ref 170) (m := 1) (ykc_223 (e := (2, .aload_n kF0, 0)) rfl) rfl rfl ?_
            refine w_gf (pc' := 95) (v := .int (zn C)) (ykc_223 (e := (5, .getfield 27, 0)) rfl) rfl gC rfl ?_
            refine w_load (pc' := 96) (v := .int (zn (zstp (a / C) (g / C) (i + 1)))) (m := 1) (ykc_223 (e := (2, .iload_n kF3, 0)) rfl) rfl rfl ?_
            have m64 : C * zstp (a / C) (g / C) (i + 1) ≤ 7 * 7 := Nat.mul_le_mul (by omega) (by omega)
            have zm64 := Nat.zero_le (C * zstp (a / C) (g / C) (i + 1))
            have e65 : (zn C) * (zn (zstp (a / C) (g / C) (i + 1))) = zn (C * zstp (a / C) (g / C) (i + 1)) := zn_of (zmulN (by omega) (by omega) (by omega) (by omega))
            have te65 := znt (k := C * zstp (a / C) (g / C) (i + 1)) (by omega)
            refine w_alu (pc' := 97) (st' := [.int (zn (C * zstp (a / C) (g / C) (i + 1))), .ref 172]) (ykc_223 (e := (0, .imul, 0)) rfl) (by rw [← e65]; rfl) rfl ?_
            refine w_load (pc' := 99) (v := .int (zn (zstp (a % C) (g % C) (i + 1)))) (m := 2) (ykc_223 (e := (2, .iload 4, 0)) rfl) rfl rfl ?_
            have e66 : (zn (C * zstp (a / C) (g / C) (i + 1))) + (zn (zstp (a % C) (g % C) (i + 1))) = zn (C * zstp (a / C) (g / C) (i + 1) + (zstp (a % C) (g % C) (i + 1))) := (zaddN (a := C * zstp (a / C) (g / C) (i + 1)) (b := zstp (a % C) (g % C) (i + 1)) (znt (by omega)) (znt (by omega)) (by omega)) 
            have te66 := znt (k := C * zstp (a / C) (g / C) (i + 1) + (zstp (a % C) (g % C) (i + 1))) (by omega)
            refine w_alu (pc' := 100) (st' := [.int (zn (C * zstp (a / C) (g / C) (i + 1) + (zstp (a % C) (g % C) (i + 1)))), .ref 172]) (ykc_223 (e := (0, .iadd, 0)) rfl) (by rw [← e66]; rfl) rfl ?_
            refine w_balk (pc' := 101) (k := C * zstp (a / C) (g / C) (i + 1) + (zstp (a % C) (g % C) (i + 1))) (ykc_223 (e := (5, .baload, 0)) rfl) (gK (C * zstp (a / C) (g / C) (i + 1) + (zstp (a % C) (g % C) (i + 1))) (by omega)) (by omega) rfl ?_
            refine w_bne (ykc_223 (e := (4, .ifCond .ne 7, 108)) rfl) rfl (fun b67 => ?_) (fun b67 => ?_)
            · refine w_alu (pc' := 109) (st' := [.int (Int32.ofInt 0)]) (ykc_223 (e := (0, .iconst 0, 0)) rfl) rfl rfl ?_
              refine w_store (pc' := 111) (L' := [some (.ref 170), some (.int x), some (.int y), some (.int (zn (zstp (a / C) (g / C) (i + 1)))), some (.int (zn (zstp (a % C) (g % C) (i + 1)))), some (.int (Int32.ofInt 0)), some (.int (Int32.ofInt 1))]) (st' := []) (m := 2) (ykc_223 (e := (3, .istore 5, 0)) rfl) rfl rfl ?_
              refine w_gb (ykc_223 (e := (4, .goto (-90), 21)) rfl) (fun k68 hk68 => ?_)
              have ep : zpos C a g (i + 1) ≠ g := by unfold zpos; omega
              have er : rk (zpos C a g (i + 1)) = true := b67
              have e5 : zclr C rk a g (i + 1) = false := by
                show (zclr C rk a g i && (decide (zpos C a g (i + 1) = g) || !rk (zpos C a g (i + 1)))) = _
                simp [b61, ep, er]
              have e6 : decide (i + 1 = 0 ∨ zpos C a g (i + 1) ≠ g) = true := by simp [ep]
              have i6 : i + 1 ≤ 7 := by
                refine Nat.succ_le_of_lt (Nat.lt_of_not_le fun q => ?_)
                have q2 := of_decide_eq_true b38
                rcases q2 with q2 | q2
                · omega
                · exact q2 (zpos_f (by omega) hC7 hR7 ha hg (by omega))
              have h9 := ih k68 hk68 (i + 1) (zn (zstp (a / C) (g / C) (i + 1))) (zn (zstp (a % C) (g % C) (i + 1))) (by omega) (by omega) (fun _ => i6)
              simp only [e5, e6, ← zi1, ← zi0] at h9
              exact h9
            · refine w_alu (pc' := 105) (st' := [.int (Int32.ofInt 1)]) (ykc_223 (e := (0, .iconst 1, 0)) rfl) rfl rfl ?_
              refine w_br (pc' := 109) (st' := [.int (Int32.ofInt 1)]) (ykc_223 (e := (4, .goto 4, 109)) rfl) rfl ?_
              refine w_store (pc' := 111) (L' := [some (.ref 170), some (.int x), some (.int y), some (.int (zn (zstp (a / C) (g / C) (i + 1)))), some (.int (zn (zstp (a % C) (g % C) (i + 1)))), some (.int (Int32.ofInt 1)), some (.int (Int32.ofInt 1))]) (st' := []) (m := 2) (ykc_223 (e := (3, .istore 5, 0)) rfl) rfl rfl ?_
              refine w_gb (ykc_223 (e := (4, .goto (-90), 21)) rfl) (fun k69 hk69 => ?_)
              have ep : zpos C a g (i + 1) ≠ g := by unfold zpos; omega
              have er : rk (zpos C a g (i + 1)) = false := b67
              have e5 : zclr C rk a g (i + 1) = true := by
                show (zclr C rk a g i && (decide (zpos C a g (i + 1) = g) || !rk (zpos C a g (i + 1)))) = _
                simp [b61, ep, er]
              have e6 : decide (i + 1 = 0 ∨ zpos C a g (i + 1) ≠ g) = true := by simp [ep]
              have i6 : i + 1 ≤ 7 := by
                refine Nat.succ_le_of_lt (Nat.lt_of_not_le fun q => ?_)
                have q2 := of_decide_eq_true b38
                rcases q2 with q2 | q2
                · omega
                · exact q2 (zpos_f (by omega) hC7 hR7 ha hg (by omega))
              have h9 := ih k69 hk69 (i + 1) (zn (zstp (a / C) (g / C) (i + 1))) (zn (zstp (a % C) (g % C) (i + 1))) (by omega) (by omega) (fun _ => i6)
              simp only [e5, e6, ← zi1, ← zi0] at h9
              exact h9
  have h9 := hl n 0 (zn (a / C)) (zn (a % C)) (by rw [zstp_0]; omega) (by rw [zstp_0]; omega) (fun q => absurd q (by decide))
  simp only [zclr, decide_true, true_or, ← zi1] at h9
  exact h9
theorem zm_sees {ph : pm_H} {R C : Nat} {rk : Nat → Bool} (hS : zSh ph) (hL : zMl ph R C rk) {x y : Int32} {a g : Nat} (hx : x.toInt = (a : Int)) (hy : y.toInt = (g : Int)) (ha : a < R * C) (hg : g < R * C) {fa ba ra : Int32} {fc br re : Nat} (hf : fa.toInt = (fc : Int)) (hb : ba.toInt = (br : Int)) (hr : ra.toInt = (re : Int)) (hf8 : fc < 8) (hb4 : br ≤ 4) : zM 224 [.ref 170, .int x, .int y, .int fa, .int ba, .int ra] ph (fun v q => ph = q ∧ v = some (.int (zI (zsee C rk a g fc br re)))) := by
  obtain ⟨Q, hQ⟩ : ∃ Q : Option Value → pm_H → Prop, Q = (fun v q => ph = q ∧ v = some (.int (zI (zsee C rk a g fc br re)))) := ⟨_, rfl⟩
  rw [← hQ]
  refine zM_mk fun n D => ?_
  show zW n D 224 Q 0 [some (.ref 170), some (.int x), some (.int y), some (.int fa), some (.int ba), some (.int ra), none, none, none] [] ph
  have c_0 : (Int32.ofInt 0).toInt = 0 := by decide +kernel
  have c_1 : (Int32.ofInt 1).toInt = 1 := by decide +kernel
  have c_2 : (Int32.ofInt 4).toInt = 4 := by decide +kernel
  have hL0 := hL
  obtain ⟨gR, gC, gK, hR3, hR7, hC3, hC7⟩ := hL
  have hRC := zRC49 hR7 hC7
  have tR := znt (k := R) (by omega)
  have tC := znt (k := C) (by omega)
  have a1 : a / C < R := (Nat.div_lt_iff_lt_mul (by omega)).mpr ha
  have g1 : g / C < R := (Nat.div_lt_iff_lt_mul (by omega)).mpr hg
  have a2 := Nat.mod_lt a (show 0 < C by omega)
  have g2 := Nat.mod_lt g (show 0 < C by omega)
  have p1 := Nat.zero_le (a / C)
  have p2 := Nat.zero_le (g / C)
  have p3 := Nat.zero_le (a % C)
  have p4 := Nat.zero_le (g % C)
  refine w_load (pc' := 1) (v := .int x) (m := 1) (ykc_224 (e := (2, .iload_n kF1, 0)) rfl) rfl rfl ?_
  refine w_load (pc' := 2) (v := .int y) (m := 1) (ykc_224 (e := (2, .iload_n kF2, 0)) rfl) rfl rfl ?_
  refine w_ine (ykc_224 (e := (4, .if_icmp .ne 5, 7)) rfl) rfl (fun b70 => ?_) (fun b70 => ?_)
  · refine w_load (pc' := 8) (v := .int y) (m := 1) (ykc_224 (e := (2, .iload_n kF2, 0)) rfl) rfl rfl ?_
    refine w_load (pc' := 9) (v := .ref 170) (m := 1) (ykc_224 (e := (2, .aload_n kF0, 0)) rfl) rfl rfl ?_
    refine w_gf (pc' := 12) (v := .int (zn C)) (ykc_224 (e := (5, .getfield 27, 0)) rfl) rfl gC rfl ?_
    refine w_idiv (pc' := 13) (ykc_224 (e := (0, .idiv, 0)) rfl) rfl (fun d71 => ?_)
    have e72 : y / (zn C) = zn (g / C) := zn_of (zdivN (by omega) (by omega) (by omega))
    have te72 := znt (k := g / C) (by omega)
    rw [e72]
    show zW n D 224 Q 13 [some (.ref 170), some (.int x), some (.int y), some (.int fa), some (.int ba), some (.int ra), none, none, none] [.int (zn (g / C))] ph
    refine w_load (pc' := 14) (v := .int x) (m := 1) (ykc_224 (e := (2, .iload_n kF1, 0)) rfl) rfl rfl ?_
    refine w_load (pc' := 15) (v := .ref 170) (m := 1) (ykc_224 (e := (2, .aload_n kF0, 0)) rfl) rfl rfl ?_
    refine w_gf (pc' := 18) (v := .int (zn C)) (ykc_224 (e := (5, .getfield 27, 0)) rfl) rfl gC rfl ?_
    refine w_idiv (pc' := 19) (ykc_224 (e := (0, .idiv, 0)) rfl) rfl (fun d73 => ?_)
    have e74 : x / (zn C) = zn (a / C) := zn_of (zdivN (by omega) (by omega) (by omega))
    have te74 := znt (k := a / C) (by omega)
    rw [e74]
    show zW n D 224 Q 19 [some (.ref 170), some (.int x), some (.int y), some (.int fa), some (.int ba), some (.int ra), none, none, none] [.int (zn (a / C)), .int (zn (g / C))] ph
    obtain ⟨z75, e_z75, h_z75⟩ : ∃ zq : Int32, (zn (g / C)) - (zn (a / C)) = zq ∧ zq.toInt = ((g / C : Nat) : Int) - ((a / C : Nat) : Int) := ⟨_, rfl, (by have := ti_sub (x := (zn (g / C))) (y := (zn (a / C))) (by omega) (by omega); omega)⟩
    refine w_alu (pc' := 20) (st' := [.int z75]) (ykc_224 (e := (0, .isub, 0)) rfl) (by rw [← e_z75]; rfl) rfl ?_
    refine w_store (pc' := 22) (L' := [some (.ref 170), some (.int x), some (.int y), some (.int fa), some (.int ba), some (.int ra), some (.int z75), none, none]) (st' := []) (m := 2) (ykc_224 (e := (3, .istore 6, 0)) rfl) rfl rfl ?_
    refine w_load (pc' := 23) (v := .int y) (m := 1) (ykc_224 (e := (2, .iload_n kF2, 0)) rfl) rfl rfl ?_
    refine w_load (pc' := 24) (v := .ref 170) (m := 1) (ykc_224 (e := (2, .aload_n kF0, 0)) rfl) rfl rfl ?_
    refine w_gf (pc' := 27) (v := .int (zn C)) (ykc_224 (e := (5, .getfield 27, 0)) rfl) rfl gC rfl ?_
    refine w_irem (pc' := 28) (ykc_224 (e := (0, .irem, 0)) rfl) rfl (fun d76 => ?_)
    have e77 : y - y / (zn C) * (zn C) = zn (g % C) := zn_of (zremN (by omega) (by omega) (by omega))
    have te77 := znt (k := g % C) (by omega)
    rw [e77]
    show zW n D 224 Q 28 [some (.ref 170), some (.int x), some (.int y), some (.int fa), some (.int ba), some (.int ra), some (.int z75), none, none] [.int (zn (g % C))] ph
    refine w_load (pc' := 29) (v := .int x) (m := 1) (ykc_224 (e := (2, .iload_n kF1, 0)) rfl) rfl rfl ?_
    refine w_load (pc' := 30) (v := .ref 170) (m := 1) (ykc_224 (e := (2, .aload_n kF0, 0)) rfl) rfl rfl ?_
    refine w_gf (pc' := 33) (v := .int (zn C)) (ykc_224 (e := (5, .getfield 27, 0)) rfl) rfl gC rfl ?_
    refine w_irem (pc' := 34) (ykc_224 (e := (0, .irem, 0)) rfl) rfl (fun d78 => ?_)
    have e79 : x - x / (zn C) * (zn C) = zn (a % C) := zn_of (zremN (by omega) (by omega) (by omega))
    have te79 := znt (k := a % C) (by omega)
    rw [e79]
    show zW n D 224 Q 34 [some (.ref 170), some (.int x), some (.int y), some (.int fa), some (.int ba), some (.int ra), some (.int z75), none, none] [.int (zn (a % C)), .int (zn (g % C))] ph
    obtain ⟨z80, e_z80, h_z80⟩ : ∃ zq : Int32, (zn (g % C)) - (zn (a % C)) = zq ∧ zq.toInt = ((g % C : Nat) : Int) - ((a % C : Nat) : Int) := ⟨_, rfl, (by have := ti_sub (x := (zn (g % C))) (y := (zn (a % C))) (by omega) (by omega); omega)⟩
    refine w_alu (pc' := 35) (st' := [.int z80]) (ykc_224 (e := (0, .isub, 0)) rfl) (by rw [← e_z80]; rfl) rfl ?_
    refine w_store (pc' := 37) (L' := [some (.ref 170), some (.int x), some (.int y), some (.int fa), some (.int ba), some (.int ra), some (.int z75), some (.int z80), none]) (st' := []) (m := 2) (ykc_224 (e := (3, .istore 7, 0)) rfl) rfl rfl ?_
    refine w_load (pc' := 39) (v := .int z75) (m := 2) (ykc_224 (e := (2, .iload 6, 0)) rfl) rfl rfl ?_
    obtain ⟨z81, e_z81⟩ : ∃ zq : Int32, (if 0 ≤ z75 then z75 else 0 - z75) = zq := ⟨_, rfl⟩
    have h_z81 := zabsI e_z81
    refine w_mem1 (pc' := 42) (m := 3) (st' := [.int z81]) (ph' := ph) (ykc_224 (e := (5, .invokestatic 276, 0)) rfl) (by rw [← e_z81]; rfl) rfl ?_
    refine w_load (pc' := 44) (v := .int z80) (m := 2) (ykc_224 (e := (2, .iload 7, 0)) rfl) rfl rfl ?_
    obtain ⟨z82, e_z82⟩ : ∃ zq : Int32, (if 0 ≤ z80 then z80 else 0 - z80) = zq := ⟨_, rfl⟩
    have h_z82 := zabsI e_z82
    refine w_mem1 (pc' := 47) (m := 3) (st' := [.int z82, .int z81]) (ph' := ph) (ykc_224 (e := (5, .invokestatic 276, 0)) rfl) (by rw [← e_z82]; rfl) rfl ?_
    obtain ⟨z83, e_z83⟩ : ∃ zq : Int32, (if z81 < z82 then z82 else z81) = zq := ⟨_, rfl⟩
    have h_z83 := zmaxI e_z83
    refine w_mem1 (pc' := 50) (m := 3) (st' := [.int z83]) (ph' := ph) (ykc_224 (e := (5, .invokestatic 273, 0)) rfl) (by rw [← e_z83]; rfl) rfl ?_
    refine w_load (pc' := 52) (v := .int ra) (m := 2) (ykc_224 (e := (2, .iload 5, 0)) rfl) rfl rfl ?_
    refine w_igt (ykc_224 (e := (4, .if_icmp .gt 7, 59)) rfl) rfl (fun b84 => ?_) (fun b84 => ?_)
    · refine w_alu (pc' := 60) (st' := [.int (Int32.ofInt 0)]) (ykc_224 (e := (0, .iconst 0, 0)) rfl) rfl rfl ?_
      refine w_store (pc' := 62) (L' := [some (.ref 170), some (.int x), some (.int y), some (.int fa), some (.int ba), some (.int ra), some (.int z75), some (.int z80), some (.int (Int32.ofInt 0))]) (st' := []) (m := 2) (ykc_224 (e := (3, .istore 8, 0)) rfl) rfl rfl ?_
      refine w_load (pc' := 64) (v := .int (Int32.ofInt 0)) (m := 2) (ykc_224 (e := (2, .iload 8, 0)) rfl) rfl rfl ?_
      refine w_zeq (ykc_224 (e := (4, .ifCond .eq 34, 98)) rfl) rfl (fun b85 => ?_) (fun q => by exfalso; omega)
      refine w_alu (pc' := 99) (st' := [.int (Int32.ofInt 0)]) (ykc_224 (e := (0, .iconst 0, 0)) rfl) rfl rfl ?_
      refine w_ret (v := (some (.int (Int32.ofInt 0)))) (ykc_224 (e := (7, .ireturn, 0)) rfl) zr_z ?_
      have ne : ¬ a = g := by omega
      have d1 : ¬ (max (((g / C : Nat) : Int) - (a / C : Nat)).natAbs (((g % C : Nat) : Int) - (a % C : Nat)).natAbs ≤ re) := by omega
      rw [hQ, zi0]
      exact ⟨rfl, zvB (by unfold zsee; rw [decide_eq_false ne, decide_eq_false d1]; rfl)⟩
    · refine w_alu (pc' := 56) (st' := [.int (Int32.ofInt 1)]) (ykc_224 (e := (0, .iconst 1, 0)) rfl) rfl rfl ?_
      refine w_br (pc' := 60) (st' := [.int (Int32.ofInt 1)]) (ykc_224 (e := (4, .goto 4, 60)) rfl) rfl ?_
      refine w_store (pc' := 62) (L' := [some (.ref 170), some (.int x), some (.int y), some (.int fa), some (.int ba), some (.int ra), some (.int z75), some (.int z80), some (.int (Int32.ofInt 1))]) (st' := []) (m := 2) (ykc_224 (e := (3, .istore 8, 0)) rfl) rfl rfl ?_
      refine w_load (pc' := 64) (v := .int (Int32.ofInt 1)) (m := 2) (ykc_224 (e := (2, .iload 8, 0)) rfl) rfl rfl ?_
      refine w_zeq (ykc_224 (e := (4, .ifCond .eq 34, 98)) rfl) rfl (fun q => by exfalso; omega) (fun b86 => ?_)
      refine w_load (pc' := 69) (v := .int z75) (m := 2) (ykc_224 (e := (2, .iload 6, 0)) rfl) rfl rfl ?_
      refine w_load (pc' := 71) (v := .int z80) (m := 2) (ykc_224 (e := (2, .iload 7, 0)) rfl) rfl rfl ?_
      refine w_cs (as := [.int z75, .int z80]) (r := []) (ykc_224 (e := (6, .invokestatic 282, 0)) rfl) rfl rfl rfl rfl (zm_way (d := ((g / C : Nat) : Int) - ((a / C : Nat) : Int)) (r := ((g % C : Nat) : Int) - ((a % C : Nat) : Int)) (by omega) (by omega) (by omega) (by omega) (by omega) (by omega)) (fun v87 ph88 hv => ?_)
      obtain ⟨rfl, rfl⟩ := hv
      have tw := znt (k := zway (((g / C : Nat) : Int) - ((a / C : Nat) : Int)) (((g % C : Nat) : Int) - ((a % C : Nat) : Int))) (by have := @zway_lt (((g / C : Nat) : Int) - ((a / C : Nat) : Int)) (((g % C : Nat) : Int) - ((a % C : Nat) : Int)); omega)
      have tw8 := @zway_lt (((g / C : Nat) : Int) - ((a / C : Nat) : Int)) (((g % C : Nat) : Int) - ((a % C : Nat) : Int))
      show zW n D 224 Q 74 [some (.ref 170), some (.int x), some (.int y), some (.int fa), some (.int ba), some (.int ra), some (.int z75), some (.int z80), some (.int (Int32.ofInt 1))] [.int (zn (zway (((g / C : Nat) : Int) - ((a / C : Nat) : Int)) (((g % C : Nat) : Int) - ((a % C : Nat) : Int))))] ph
      refine w_load (pc' := 75) (v := .int fa) (m := 1) (ykc_224 (e := (2, .iload_n kF3, 0)) rfl) rfl rfl ?_
      refine w_cs (as := [.int (zn (zway (((g / C : Nat) : Int) - ((a / C : Nat) : Int)) (((g % C : Nat) : Int) - ((a % C : Nat) : Int)))), .int fa]) (r := []) (ykc_224 (e := (6, .invokestatic 285, 0)) rfl) rfl rfl rfl rfl (zm_e8 (a := zway (((g / C : Nat) : Int) - ((a / C : Nat) : Int)) (((g % C : Nat) : Int) - ((a % C : Nat) : Int))) (b := fc) (by omega) (by omega) (by omega) (by omega)) (fun v89 ph90 hv => ?_)
      obtain ⟨rfl, rfl⟩ := hv
      have te := znt (k := ze8 (zway (((g / C : Nat) : Int) - ((a / C : Nat) : Int)) (((g % C : Nat) : Int) - ((a % C : Nat) : Int))) fc) (by unfold ze8; omega)
      show zW n D 224 Q 78 [some (.ref 170), some (.int x), some (.int y), some (.int fa), some (.int ba), some (.int ra), some (.int z75), some (.int z80), some (.int (Int32.ofInt 1))] [.int (zn (ze8 (zway (((g / C : Nat) : Int) - ((a / C : Nat) : Int)) (((g % C : Nat) : Int) - ((a % C : Nat) : Int))) fc))] ph
      refine w_alu (pc' := 79) (st' := [.int (Int32.ofInt 4), .int (zn (ze8 (zway (((g / C : Nat) : Int) - ((a / C : Nat) : Int)) (((g % C : Nat) : Int) - ((a % C : Nat) : Int))) fc))]) (ykc_224 (e := (0, .iconst 4, 0)) rfl) rfl rfl ?_
      refine w_load (pc' := 81) (v := .int ba) (m := 2) (ykc_224 (e := (2, .iload 4, 0)) rfl) rfl rfl ?_
      obtain ⟨z91, e_z91, h_z91⟩ : ∃ zq : Int32, (Int32.ofInt 4) - ba = zq ∧ zq.toInt = (4 : Int) - ((br : Nat) : Int) := ⟨_, rfl, (by have := ti_sub (x := (Int32.ofInt 4)) (y := ba) (by omega) (by omega); omega)⟩
      refine w_alu (pc' := 82) (st' := [.int z91, .int (zn (ze8 (zway (((g / C : Nat) : Int) - ((a / C : Nat) : Int)) (((g % C : Nat) : Int) - ((a % C : Nat) : Int))) fc))]) (ykc_224 (e := (0, .isub, 0)) rfl) (by rw [← e_z91]; rfl) rfl ?_
      refine w_igt (ykc_224 (e := (4, .if_icmp .gt 16, 98)) rfl) rfl (fun b92 => ?_) (fun b92 => ?_)
      · refine w_alu (pc' := 99) (st' := [.int (Int32.ofInt 0)]) (ykc_224 (e := (0, .iconst 0, 0)) rfl) rfl rfl ?_
        refine w_ret (v := (some (.int (Int32.ofInt 0)))) (ykc_224 (e := (7, .ireturn, 0)) rfl) zr_z ?_
        have ne : ¬ a = g := by omega
        have d1 : (max (((g / C : Nat) : Int) - (a / C : Nat)).natAbs (((g % C : Nat) : Int) - (a % C : Nat)).natAbs ≤ re) := by omega
        have d2 : ¬ (ze8 (zway (((g / C : Nat) : Int) - (a / C : Nat)) (((g % C : Nat) : Int) - (a % C : Nat))) fc + br ≤ 4) := by omega
        rw [hQ, zi0]
        exact ⟨rfl, zvB (by unfold zsee; rw [decide_eq_false ne, decide_eq_true d1, decide_eq_false d2]; rfl)⟩
      · refine w_load (pc' := 86) (v := .ref 170) (m := 1) (ykc_224 (e := (2, .aload_n kF0, 0)) rfl) rfl rfl ?_
        refine w_load (pc' := 87) (v := .int x) (m := 1) (ykc_224 (e := (2, .iload_n kF1, 0)) rfl) rfl rfl ?_
        refine w_load (pc' := 88) (v := .int y) (m := 1) (ykc_224 (e := (2, .iload_n kF2, 0)) rfl) rfl rfl ?_
        refine w_cv (as := [.ref 170, .int x, .int y]) (r := []) (ykc_224 (e := (6, .invokevirtual 288, 0)) rfl) rfl rfl rfl rfl (zm_clear hS hL0 (a := a) (g := g) (by omega) (by omega) (by omega) (by omega)) (fun v93 ph94 hv => ?_)
        obtain ⟨rfl, rfl⟩ := hv
        show zW n D 224 Q 91 [some (.ref 170), some (.int x), some (.int y), some (.int fa), some (.int ba), some (.int ra), some (.int z75), some (.int z80), some (.int (Int32.ofInt 1))] [.int (zI (zclr C rk a g 7))] ph
        refine w_beq (ykc_224 (e := (4, .ifCond .eq 7, 98)) rfl) rfl (fun b95 => ?_) (fun b95 => ?_)
        · refine w_alu (pc' := 99) (st' := [.int (Int32.ofInt 0)]) (ykc_224 (e := (0, .iconst 0, 0)) rfl) rfl rfl ?_
          refine w_ret (v := (some (.int (Int32.ofInt 0)))) (ykc_224 (e := (7, .ireturn, 0)) rfl) zr_z ?_
          have ne : ¬ a = g := by omega
          have d1 : (max (((g / C : Nat) : Int) - (a / C : Nat)).natAbs (((g % C : Nat) : Int) - (a % C : Nat)).natAbs ≤ re) := by omega
          have d2 : (ze8 (zway (((g / C : Nat) : Int) - (a / C : Nat)) (((g % C : Nat) : Int) - (a % C : Nat))) fc + br ≤ 4) := by omega
          rw [hQ, zi0]
          exact ⟨rfl, zvB (by unfold zsee; rw [decide_eq_false ne, decide_eq_true d1, decide_eq_true d2, b95]; rfl)⟩
        · refine w_alu (pc' := 95) (st' := [.int (Int32.ofInt 1)]) (ykc_224 (e := (0, .iconst 1, 0)) rfl) rfl rfl ?_
          refine w_br (pc' := 99) (st' := [.int (Int32.ofInt 1)]) (ykc_224 (e := (4, .goto 4, 99)) rfl) rfl ?_
          refine w_ret (v := (some (.int (Int32.ofInt 1)))) (ykc_224 (e := (7, .ireturn, 0)) rfl) zr_z ?_
          have ne : ¬ a = g := by omega
          have d1 : (max (((g / C : Nat) : Int) - (a / C : Nat)).natAbs (((g % C : Nat) : Int) - (a % C : Nat)).natAbs ≤ re) := by omega
          have d2 : (ze8 (zway (((g / C : Nat) : Int) - (a / C : Nat)) (((g % C : Nat) : Int) - (a % C : Nat))) fc + br ≤ 4) := by omega
          rw [hQ, zi1]
          exact ⟨rfl, zvB (by unfold zsee; rw [decide_eq_false ne, decide_eq_true d1, decide_eq_true d2, b95]; rfl)⟩
  · refine w_alu (pc' := 6) (st' := [.int (Int32.ofInt 1)]) (ykc_224 (e := (0, .iconst 1, 0)) rfl) rfl rfl ?_
    refine w_ret (v := (some (.int (Int32.ofInt 1)))) (ykc_224 (e := (7, .ireturn, 0)) rfl) zr_z ?_
    rw [hQ, zi1]
    have e : a = g := by omega
    exact ⟨rfl, zvB (by unfold zsee; simp [e])⟩
