/-! The law of many calls: its frame, the two constructors -/
section SYM
variable {K : pm_K} {al : Bool} {C : Nat → List Value → pm_H → pm_R → Prop} {mj pc aux : Nat} {ins : Instr} {L L' : List (Option Value)} {st st' : List Value} {ph ph' : pm_H} {c s : Nat} {x x' y : pm_S} {r : pm_R}
theorem ks0 (hc : pm_code K mj pc = some (0, ins, aux)) (h : pm_alu ins st = some st') : pm_step K al mj (pc, L, st, ph, c, s) = some (.inl (pc + 1, L, st', ph, c, s)) := by
  unfold pm_step
  simp only [hc, h]
theorem ks2 {v : Value} {n : Nat} (hc : pm_code K mj pc = some (2, ins, aux)) (h : pm_load ins L = some (v, n)) : pm_step K al mj (pc, L, st, ph, c, s) = some (.inl (pc + n, L, v :: st, ph, c, s)) := by
  unfold pm_step
  simp only [hc, h]
theorem ks3 {n : Nat} (hc : pm_code K mj pc = some (3, ins, aux)) (h : pm_store ins L st = some (L', st', n)) : pm_step K al mj (pc, L, st, ph, c, s) = some (.inl (pc + n, L', st', ph, c, s)) := by
  unfold pm_step
  simp only [hc, h]
theorem ks4 {pc' : Nat} (hc : pm_code K mj pc = some (4, ins, aux)) (h : pm_br ins aux pc st = some (pc', st')) : pm_step K al mj (pc, L, st, ph, c, s) = some (.inl (pc', L, st', ph, c, s)) := by
  unfold pm_step
  simp only [hc, h]
theorem ks5 {n c1 s1 : Nat} (hc : pm_code K mj pc = some (5, ins, aux)) (h : pm_mem K al (pm_own K mj) ins st ph = some (n, st', ph', c1, s1)) : pm_step K al mj (pc, L, st, ph, c, s) = some (.inl (pc + n, L, st', ph', c + c1, s + s1)) := by
  unfold pm_step
  simp only [hc, h]
theorem ks6 {j : Nat} {as r0 : List Value} (hc : pm_code K mj pc = some (6, ins, aux)) (h : pm_inv K (pm_own K mj) ins st ph = some (j, as, r0)) : pm_step K al mj (pc, L, st, ph, c, s) = some (.inr (.inl (j, as, (pc + 3, L, r0, ph, c, s)))) := by
  unfold pm_step
  simp only [hc, h]
theorem ks1 {v : Value} {n : Nat} (hc : pm_code K mj pc = some (1, ins, aux)) (h : pm_push K (pm_own K mj) ins = some (v, n)) : pm_step K al mj (pc, L, st, ph, c, s) = some (.inl (pc + n, L, v :: st, ph, c, s)) := by
  unfold pm_step
  simp only [hc, h]
theorem ks7 {v : Option Value} (hc : pm_code K mj pc = some (7, ins, aux)) (h : pm_ret (pm_sig K mj).2.2 ins st = some v) : pm_step K al mj (pc, L, st, ph, c, s) = some (.inr (.inr v)) := by
  unfold pm_step
  simp only [hc, h]
end SYM
def pm_Se (K : pm_K) (al : Bool) (C : Nat → List Value → pm_H → pm_R → Prop) (mj : Nat) (x y : pm_S) : Prop := ∃ n, pm_Sn K al C mj n x y
section KSE
variable {K : pm_K} {al : Bool} {C : Nat → List Value → pm_H → pm_R → Prop} {mj pc aux : Nat} {ins : Instr} {L L' : List (Option Value)} {st st' : List Value} {ph ph' : pm_H} {c s : Nat} {x x' y : pm_S}
theorem pm_Se.rf : pm_Se K al C mj x x := ⟨0, rfl⟩
theorem pm_Se.step (h : pm_step K al mj x = some (.inl x')) (kk : pm_Se K al C mj x' y) : pm_Se K al C mj x y := by
  obtain ⟨n, hn⟩ := kk
  refine ⟨n + 1, ?_⟩
  rw [pm_Sn, h]
  exact hn
theorem pm_Se.call {j : Nat} {as : List Value} {v : Option Value} {c1 s1 : Nat} (h : pm_step K al mj x = some (.inr (.inl (j, as, (pc, L, st, ph, c, s))))) (hC : C j as ph (v, ph', c1, s1)) (kk : pm_Se K al C mj (pc, L, v.toList ++ st, ph', c + c1, s + s1) y) : pm_Se K al C mj x y := by
  obtain ⟨n, hn⟩ := kk
  refine ⟨n + 1, ?_⟩
  rw [pm_Sn, h]
  exact ⟨v, ph', c1, s1, hC, hn⟩
end KSE
section KLR
variable {xs : Nat → Int32} {N pc aux : Nat} {st : List Value} {ph : pm_H} {c s : Nat}
/-- the law's variables; i -/
def kLL (i : Int32) : List (Option Value) := [some (.ref 1048581), some (.ref 0), some (.ref 170), some (.ref 201), some (.int i), none, none, none]
theorem kcL {e : Nat × Instr × Nat} (h : pm_tl kc_L pc = some e) : pm_code (kK2 xs N) 0 pc = some e := h
end KLR
theorem ks_new {K : pm_K} {mj pc i ci n N : Nat} {v0 : Value} {L : List (Option Value)} {st : List Value} {ph : pm_H} {c s : Nat} (hc : pm_code K mj pc = some (5, .new i, 0)) (hl : pm_lnk K (pm_own K mj) i = some (9, ci, n, v0)) (hN : ph.length = N) (hb : Nat.blt N 1048575 = true) : pm_step K true mj (pc, L, st, ph, c, s) = some (.inl (pc + 3, L, .ref N :: st, ph ++ [.inr (ci, pm_new0 K ci)], c + 1, s + n)) := by
  refine ks5 hc ?_
  unfold pm_mem
  simp only [hl, hN, hb, Bool.and_self, cond_true]
theorem kHx_len : kHx.length = 170 := by decide +kernel
theorem kHxm_len : (kHx ++ kHm).length = 201 := by decide +kernel
section KHD
variable {xs : Nat → Int32} {N : Nat}
def kC0 : Nat := 0 + 1 + 169 + 1 + 30 + 1
def kS0 : Nat := 0 + 15 + 5082 + 49 + 4783 + 1
theorem kctor : pm_Se (kK2 xs N) true (pm_Rd kK true 12) 0 (pm_ent (kK2 xs N) 0 [.ref 1048581] []) (23, kLL (Int32.ofInt 0), [], kH0, kC0, kS0) := by
  refine .step (x' := (3, [some (.ref 1048581), none, none, none, none, none, none, none], [.ref 0], [.inr (12, knw 12)], 0 + 1, 0 + 15)) (ks_new (i := 8) (ci := 12) (n := 15) (N := 0) rfl rfl rfl rfl) ?_
  refine .step (ks0 (st' := [.ref 0, .ref 0]) (kcL (e := (0, .dup, 0)) rfl) rfl) ?_
  refine .call (j := 121) (as := [.ref 0]) (ks6 (r0 := [.ref 0]) (kcL (e := (6, .invokespecial 22, 0)) rfl) rfl) (pm_ev_R _ _ _ _ _ _ _ _ kctor_x) ?_
  refine .step (ks3 (n := 1) (L' := [some (.ref 1048581), some (.ref 0), none, none, none, none, none, none]) (st' := []) (kcL (e := (3, .astore_n kF1, 0)) rfl) rfl) ?_
  refine .step (ks_new (i := 23) (ci := 13) (n := 49) (N := 170) rfl rfl kHx_len rfl) ?_
  refine .step (ks0 (st' := [.ref 170, .ref 170]) (kcL (e := (0, .dup, 0)) rfl) rfl) ?_
  refine .call (j := 187) (as := [.ref 170]) (ks6 (r0 := [.ref 170]) (kcL (e := (6, .invokespecial 25, 0)) rfl) rfl) (pm_ev_R _ _ _ _ _ _ _ _ kctor_m) ?_
  refine .step (ks3 (n := 1) (L' := [some (.ref 1048581), some (.ref 0), some (.ref 170), none, none, none, none, none]) (st' := []) (kcL (e := (3, .astore_n kF2, 0)) rfl) rfl) ?_
  refine .step (ks0 (st' := [.int (Int32.ofInt 1)]) (kcL (e := (0, .iconst 1, 0)) rfl) rfl) ?_
  refine .step (ks5 (n := 2) (st' := [.ref 201]) (ph' := (kHx ++ kHm) ++ [.inl (2, .inr (.inl [0]))]) (c1 := 1) (s1 := 1) (kcL (e := (5, .newarray .long, 0)) rfl) ?_) ?_
  · have e1 : decide (Int32.ofInt 1 < 0) = false := by decide +kernel
    have e2 : (Int32.ofInt 1).toNatClampNeg = 1 := by decide +kernel
    have e3 : Nat.blt 201 1048575 = true := rfl
    have e4 : Nat.ble 1 1000000 = true := rfl
    unfold pm_mem
    simp only [e1, e2, cond_false, pm_blank, kHxm_len, e3, e4, Bool.and_self, cond_true]
    rfl
  refine .step (ks3 (n := 1) (L' := [some (.ref 1048581), some (.ref 0), some (.ref 170), some (.ref 201), none, none, none, none]) (st' := []) (kcL (e := (3, .astore_n kF3, 0)) rfl) rfl) ?_
  refine .step (ks0 (st' := [.int (Int32.ofInt 0)]) (kcL (e := (0, .iconst 0, 0)) rfl) rfl) ?_
  exact .step (ks3 (n := 2) (L' := kLL (Int32.ofInt 0)) (st' := []) (kcL (e := (3, .istore 4, 0)) rfl) rfl) .rf
end KHD
