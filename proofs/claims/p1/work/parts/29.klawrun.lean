/-! The law's frame, step by step -/
def pm_Se (K : pm_K) (al : Bool) (C : Nat → List Value → pm_H → pm_R → Prop) (mj : Nat) (x y : pm_S) : Prop := ∃ n, pm_Sn K al C mj n x y
section KSE
variable {K : pm_K} {al : Bool} {C : Nat → List Value → pm_H → pm_R → Prop} {mj pc aux : Nat} {ins : Instr} {L L' : List (Option Value)} {st st' : List Value} {ph ph' : pm_H} {c s : Nat} {x x' y : pm_S}
theorem pm_Se.rf : pm_Se K al C mj x x := ⟨0, rfl⟩
theorem pm_Se.step (h : pm_step K al mj x = some (.inl x')) (kk : pm_Se K al C mj x' y) : pm_Se K al C mj x y := by
  obtain ⟨n, hn⟩ := kk
  refine ⟨n + 1, ?_⟩
  rw [pm_Sn, h]
  exact hn
theorem pm_Se.call {j : Nat} {as : List Value} {v : Option Value} {c1 s1 : Nat} (h : pm_step K al mj x = some (.inr (.inl (j, as, (pc, L, st, ph, c, s))))) (hC : C j as ph (v, ph', c1, s1)) (kk : pm_Se K al C mj (pc, L, v.toList ++ st, ph', c + c1, s + s1) y) : pm_Se K al C mj x y := by
  obtain ⟨n, hn⟩ := kk
  refine ⟨n + 1, ?_⟩
  rw [pm_Sn, h]
  exact ⟨v, ph', c1, s1, hC, hn⟩
end KSE
section KLR
variable {xs : Nat → Int32} {N pc aux : Nat} {st : List Value} {ph : pm_H} {c s : Nat}
/-- the law's variables; i -/
def kLL (i : Int32) : List (Option Value) := [some (.ref 1048581), some (.ref 0), some (.ref 170), some (.ref 201), some (.int i), none, none, none]
theorem kcL {e : Nat × Instr × Nat} (h : pm_tl kc_L pc = some e) : pm_code (kK2 xs N) 0 pc = some e := h
theorem kcLk {i : Nat} {e : pm_L} (h : pm_tl kLo_22 i = some e) : pm_lnk (kK2 xs N) (pm_own (kK2 xs N) 0) i = some e := h
/-- from here the law ends with true, in its room -/
def kGoal (xs : Nat → Int32) (N pc : Nat) (L : List (Option Value)) (st : List Value) (ph : pm_H) (c s : Nat) : Prop := ∃ (Lc : List (Option Value)) (ph' : pm_H) (c' s' : Nat), c' ≤ 600002 ∧ s' ≤ 7302232 ∧ pm_Se (kK2 xs N) false (pm_Rd kK false 40) 0 (pc, L, st, ph, c, s) (1541, Lc, [.int 1], ph', c', s')
theorem kGoal.step {L L' : List (Option Value)} {pc' : Nat} {st' : List Value} {ph' : pm_H} {c' s' : Nat} (h : pm_step (kK2 xs N) false 0 (pc, L, st, ph, c, s) = some (.inl (pc', L', st', ph', c', s'))) (kk : kGoal xs N pc' L' st' ph' c' s') : kGoal xs N pc L st ph c s := by
  obtain ⟨Lc, q, c2, s2, h1, h2, h3⟩ := kk
  exact ⟨Lc, q, c2, s2, h1, h2, .step h h3⟩
theorem kGoal.fin {L : List (Option Value)} (hc : c ≤ 600002) (hs : s ≤ 7302232) : kGoal xs N 1541 L [.int 1] ph c s := ⟨L, ph, c, s, hc, hs, .rf⟩
/-- a virtual call -/
theorem kGoal.call {L : List (Option Value)} {i j n ci a : Nat} {r : List Value} {v : Option Value} {fs : List Value} {ph' : pm_H} {c1 s1 : Nat} (hc : pm_tl kc_L pc = some (6, .invokevirtual i, 0)) (hl : pm_tl kLo_22 i = some (2, j, n, .ref ci)) (hd : st.drop n = .ref a :: r) (ha : pm_at ph a = some (.inr (ci, fs))) (hr : Nat.ble (r.map fun v => v.category).sum 8 = true)
    (hC : pm_Rd kK false 40 j (.ref a :: (st.take n).reverse) ph (v, ph', c1, s1)) (kk : kGoal xs N (pc + 3) L (v.toList ++ r) ph' (c + c1) (s + s1)) : kGoal xs N pc L st ph c s := by
  obtain ⟨Lc, q, c2, s2, h1, h2, h3⟩ := kk
  refine ⟨Lc, q, c2, s2, h1, h2, .call (ks6 (kcL hc) ?_) hC h3⟩
  unfold pm_inv
  have e : Nat.beq ci ci = true := by first | exact Nat.beq_refl _ | exact Nat.beq_refl | simp
  simp only [kcLk hl, hd, ha, e, hr, Bool.and_self, cond_true]
/-- the script's q-th -/
theorem kGoal.arg {z : Int} {q : Nat} (hz : pm_inb (Int32.ofInt 0 + Int32.ofInt z) 5 = true) (hq : (Int32.ofInt 0 + Int32.ofInt z).toNatClampNeg = q) (h1 : pm_tl kc_L pc = some (2, .aload_n kF0, 0)) (h2 : pm_tl kc_L (pc + 1) = some (2, .iload 4, 0)) (h3 : pm_tl kc_L (pc + 3) = some (0, .iconst z, 0)) (h4 : pm_tl kc_L (pc + 4) = some (0, .iadd, 0)) (h5 : pm_tl kc_L (pc + 5) = some (5, .iaload, 0)) (kk : kGoal xs 5 (pc + 6) (kLL (Int32.ofInt 0)) (.int (xs q) :: st) ph c s) : kGoal xs 5 pc (kLL (Int32.ofInt 0)) st ph c s := by
  refine .step (ks2 (v := .ref 1048581) (n := 1) (kcL h1) rfl) ?_
  refine .step (ks2 (v := .int (Int32.ofInt 0)) (n := 2) (kcL h2) rfl) ?_
  refine .step (ks0 (st' := .int (Int32.ofInt z) :: .int (Int32.ofInt 0) :: .ref 1048581 :: st) (kcL h3) rfl) ?_
  refine .step (ks0 (st' := .int (Int32.ofInt 0 + Int32.ofInt z) :: .ref 1048581 :: st) (kcL h4) rfl) ?_
  refine .step (ks5 (n := 1) (c1 := 0) (s1 := 0) (st' := .int (xs q) :: st) (ph' := ph) (kcL h5) ?_) kk
  subst hq
  show (bif pm_inb (Int32.ofInt 0 + Int32.ofInt z) 5 then some (1, Value.int (xs (Int32.ofInt 0 + Int32.ofInt z).toNatClampNeg) :: st, ph, 0, 0) else none) = _
  rw [hz]
  rfl
theorem kz1 : pm_inb (Int32.ofInt 0 + Int32.ofInt 1) 5 = true := by decide +kernel
theorem kz2 : pm_inb (Int32.ofInt 0 + Int32.ofInt 2) 5 = true := by decide +kernel
theorem kz3 : pm_inb (Int32.ofInt 0 + Int32.ofInt 3) 5 = true := by decide +kernel
theorem kz4 : pm_inb (Int32.ofInt 0 + Int32.ofInt 4) 5 = true := by decide +kernel
theorem ky1 : (Int32.ofInt 0 + Int32.ofInt 1).toNatClampNeg = 1 := by decide +kernel
theorem ky2 : (Int32.ofInt 0 + Int32.ofInt 2).toNatClampNeg = 2 := by decide +kernel
theorem ky3 : (Int32.ofInt 0 + Int32.ofInt 3).toNatClampNeg = 3 := by decide +kernel
theorem ky4 : (Int32.ofInt 0 + Int32.ofInt 4).toNatClampNeg = 4 := by decide +kernel
theorem kGoal.x {k : Fin 4} {a : Nat} (h1 : pm_tl kc_L pc = some (2, .aload_n k, 0)) (h2 : pm_load (.aload_n k) (kLL (Int32.ofInt 0)) = some (.ref a, 1)) (kk : kGoal xs N (pc + 1) (kLL (Int32.ofInt 0)) (.ref a :: st) ph c s) : kGoal xs N pc (kLL (Int32.ofInt 0)) st ph c s := .step (ks2 (kcL h1) h2) kk
theorem kGoal.eq {x : Int32} {o : Int} (h1 : pm_tl kc_L pc = some (4, .if_icmp .eq o, aux)) (kk : kGoal xs N aux (kLL (Int32.ofInt 0)) st ph c s) : kGoal xs N pc (kLL (Int32.ofInt 0)) (.int x :: .int x :: st) ph c s := by
  refine .step (ks4 (pc' := aux) (st' := st) (kcL h1) ?_) kk
  show some (bif decide (x = x) then aux else pc + 3, st) = _
  rw [decide_eq_true rfl]
  rfl
theorem kGoal.leq {x : Int64} {o : Int} (h0 : pm_tl kc_L pc = some (0, .lcmp, 0)) (h1 : pm_tl kc_L (pc + 1) = some (4, .ifCond .eq o, aux)) (kk : kGoal xs N aux (kLL (Int32.ofInt 0)) st ph c s) : kGoal xs N pc (kLL (Int32.ofInt 0)) (.long x :: .long x :: st) ph c s := by
  refine .step (ks0 (st' := .int (lg_cmp x x) :: st) (kcL h0) rfl) ?_
  refine .step (ks4 (pc' := aux) (st' := st) (kcL h1) ?_) kk
  have e : lg_cmp x x = 0 := by simp [lg_cmp]
  rw [e]
  rfl
/-- the loop's end: the script has no more -/
theorem kGoal.tail (hc : c ≤ 600002) (hs : s ≤ 7302232) : kGoal xs 5 1534 (kLL (Int32.ofInt 0)) [] ph c s := by
  refine .step (ks3 (n := 3) (L' := kLL (Int32.ofInt 0 + Int32.ofInt 5)) (st' := []) (kcL (e := (3, .iinc 4 5, 0)) rfl) rfl) ?_
  refine .step (ks4 (pc' := 23) (st' := []) (kcL (e := (4, .goto (-1514), 23)) rfl) rfl) ?_
  refine .step (ks2 (n := 2) (v := .int (Int32.ofInt 0 + Int32.ofInt 5)) (kcL (e := (2, .iload 4, 0)) rfl) rfl) ?_
  refine .step (ks2 (n := 1) (v := .ref 1048581) (kcL (e := (2, .aload_n kF0, 0)) rfl) rfl) ?_
  refine .step (ks5 (n := 1) (c1 := 0) (s1 := 0) (st' := [.int (Int32.ofNat 5), .int (Int32.ofInt 0 + Int32.ofInt 5)]) (ph' := ph) (kcL (e := (5, .arraylength, 0)) rfl) rfl) ?_
  refine .step (ks0 (st' := [.int (Int32.ofInt 5), .int (Int32.ofNat 5), .int (Int32.ofInt 0 + Int32.ofInt 5)]) (kcL (e := (0, .iconst 5, 0)) rfl) rfl) ?_
  refine .step (ks0 (st' := [.int (Int32.ofNat 5 - Int32.ofInt 5), .int (Int32.ofInt 0 + Int32.ofInt 5)]) (kcL (e := (0, .isub, 0)) rfl) rfl) ?_
  refine .step (ks4 (pc' := 1540) (st' := []) (kcL (e := (4, .if_icmp .gt 1511, 1540)) rfl) ?_) ?_
  · have e : decide (Int32.ofNat 5 - Int32.ofInt 5 < Int32.ofInt 0 + Int32.ofInt 5) = true := by decide +kernel
    show some (bif decide (Int32.ofNat 5 - Int32.ofInt 5 < Int32.ofInt 0 + Int32.ofInt 5) then 1540 else 29 + 3, []) = _
    rw [e]
    rfl
  · refine .step (ks0 (st' := [.int 1]) (kcL (e := (0, .iconst 1, 0)) rfl) ?_) ?_
    · have e : Int32.ofInt 1 = 1 := by decide +kernel
      show some [Value.int (Int32.ofInt 1)] = _
      rw [e]
    · exact .fin hc hs
theorem kcase_0 (h : kSame 40 true 122 194 [.int (xs 1)] kH0) (hc : c ≤ 500000) (hs : s ≤ 7000000) : kGoal xs 5 240 (kLL (Int32.ofInt 0)) [] kH0 c s := by
  obtain ⟨v, ph1, ph2, c1, s1, c2, s2, h1, h2, h3, h4, ⟨fs, h5⟩, h6, h7⟩ := h
  obtain ⟨x, rfl⟩ := h6 rfl
  refine .x (k := kF1) (a := 0) rfl rfl (.arg kz1 ky1 rfl rfl rfl rfl rfl (.call (j := 122) (n := 1) (ci := 12) (a := 0) (r := []) rfl rfl rfl rfl rfl h1 ?_))
  refine .x (k := kF2) (a := 170) rfl rfl (.arg kz1 ky1 rfl rfl rfl rfl rfl (.call (j := 194) (n := 1) (ci := 13) (a := 170) (r := [.int x]) rfl rfl rfl h5 rfl h2 ?_))
  exact .eq rfl (.tail (by omega) (by omega))
theorem kcase_1 (h : kSame 40 true 123 195 [.int (xs 1)] kH0) (hc : c ≤ 500000) (hs : s ≤ 7000000) : kGoal xs 5 265 (kLL (Int32.ofInt 0)) [] kH0 c s := by
  obtain ⟨v, ph1, ph2, c1, s1, c2, s2, h1, h2, h3, h4, ⟨fs, h5⟩, h6, h7⟩ := h
  obtain ⟨x, rfl⟩ := h6 rfl
  refine .x (k := kF1) (a := 0) rfl rfl (.arg kz1 ky1 rfl rfl rfl rfl rfl (.call (j := 123) (n := 1) (ci := 12) (a := 0) (r := []) rfl rfl rfl rfl rfl h1 ?_))
  refine .x (k := kF2) (a := 170) rfl rfl (.arg kz1 ky1 rfl rfl rfl rfl rfl (.call (j := 195) (n := 1) (ci := 13) (a := 170) (r := [.int x]) rfl rfl rfl h5 rfl h2 ?_))
  exact .eq rfl (.tail (by omega) (by omega))
theorem kcase_2 (h : kSame 40 true 124 203 [] kH0) (hc : c ≤ 500000) (hs : s ≤ 7000000) : kGoal xs 5 290 (kLL (Int32.ofInt 0)) [] kH0 c s := by
  obtain ⟨v, ph1, ph2, c1, s1, c2, s2, h1, h2, h3, h4, ⟨fs, h5⟩, h6, h7⟩ := h
  obtain ⟨x, rfl⟩ := h6 rfl
  refine .x (k := kF1) (a := 0) rfl rfl (.call (j := 124) (n := 0) (ci := 12) (a := 0) (r := []) rfl rfl rfl rfl rfl h1 ?_)
  refine .x (k := kF2) (a := 170) rfl rfl (.call (j := 203) (n := 0) (ci := 13) (a := 170) (r := [.int x]) rfl rfl rfl h5 rfl h2 ?_)
  exact .eq rfl (.tail (by omega) (by omega))
theorem kcase_3 (h : kSame 40 true 125 209 [] kH0) (hc : c ≤ 500000) (hs : s ≤ 7000000) : kGoal xs 5 303 (kLL (Int32.ofInt 0)) [] kH0 c s := by
  obtain ⟨v, ph1, ph2, c1, s1, c2, s2, h1, h2, h3, h4, ⟨fs, h5⟩, h6, h7⟩ := h
  obtain ⟨x, rfl⟩ := h6 rfl
  refine .x (k := kF1) (a := 0) rfl rfl (.call (j := 125) (n := 0) (ci := 12) (a := 0) (r := []) rfl rfl rfl rfl rfl h1 ?_)
  refine .x (k := kF2) (a := 170) rfl rfl (.call (j := 209) (n := 0) (ci := 13) (a := 170) (r := [.int x]) rfl rfl rfl h5 rfl h2 ?_)
  exact .eq rfl (.tail (by omega) (by omega))
theorem kcase_4 (h : kSame 40 true 126 210 [] kH0) (hc : c ≤ 500000) (hs : s ≤ 7000000) : kGoal xs 5 316 (kLL (Int32.ofInt 0)) [] kH0 c s := by
  obtain ⟨v, ph1, ph2, c1, s1, c2, s2, h1, h2, h3, h4, ⟨fs, h5⟩, h6, h7⟩ := h
  obtain ⟨x, rfl⟩ := h6 rfl
  refine .x (k := kF1) (a := 0) rfl rfl (.call (j := 126) (n := 0) (ci := 12) (a := 0) (r := []) rfl rfl rfl rfl rfl h1 ?_)
  refine .x (k := kF2) (a := 170) rfl rfl (.call (j := 210) (n := 0) (ci := 13) (a := 170) (r := [.int x]) rfl rfl rfl h5 rfl h2 ?_)
  exact .eq rfl (.tail (by omega) (by omega))
theorem kcase_5 (h : kSame 40 true 127 211 [] kH0) (hc : c ≤ 500000) (hs : s ≤ 7000000) : kGoal xs 5 329 (kLL (Int32.ofInt 0)) [] kH0 c s := by
  obtain ⟨v, ph1, ph2, c1, s1, c2, s2, h1, h2, h3, h4, ⟨fs, h5⟩, h6, h7⟩ := h
  obtain ⟨x, rfl⟩ := h6 rfl
  refine .x (k := kF1) (a := 0) rfl rfl (.call (j := 127) (n := 0) (ci := 12) (a := 0) (r := []) rfl rfl rfl rfl rfl h1 ?_)
  refine .x (k := kF2) (a := 170) rfl rfl (.call (j := 211) (n := 0) (ci := 13) (a := 170) (r := [.int x]) rfl rfl rfl h5 rfl h2 ?_)
  exact .eq rfl (.tail (by omega) (by omega))
theorem kcase_6 (h : kSame 40 true 128 218 [] kH0) (hc : c ≤ 500000) (hs : s ≤ 7000000) : kGoal xs 5 342 (kLL (Int32.ofInt 0)) [] kH0 c s := by
  obtain ⟨v, ph1, ph2, c1, s1, c2, s2, h1, h2, h3, h4, ⟨fs, h5⟩, h6, h7⟩ := h
  obtain ⟨x, rfl⟩ := h6 rfl
  refine .x (k := kF1) (a := 0) rfl rfl (.call (j := 128) (n := 0) (ci := 12) (a := 0) (r := []) rfl rfl rfl rfl rfl h1 ?_)
  refine .x (k := kF2) (a := 170) rfl rfl (.call (j := 218) (n := 0) (ci := 13) (a := 170) (r := [.int x]) rfl rfl rfl h5 rfl h2 ?_)
  exact .eq rfl (.tail (by omega) (by omega))
theorem kcase_9 (h : kSame 40 true 131 238 [.int (xs 1), .int (xs 2), .int (xs 3), .int (xs 4)] kH0) (hc : c ≤ 500000) (hs : s ≤ 7000000) : kGoal xs 5 491 (kLL (Int32.ofInt 0)) [] kH0 c s := by
  obtain ⟨v, ph1, ph2, c1, s1, c2, s2, h1, h2, h3, h4, ⟨fs, h5⟩, h6, h7⟩ := h
  obtain ⟨x, rfl⟩ := h6 rfl
  refine .x (k := kF1) (a := 0) rfl rfl (.arg kz1 ky1 rfl rfl rfl rfl rfl (.arg kz2 ky2 rfl rfl rfl rfl rfl (.arg kz3 ky3 rfl rfl rfl rfl rfl (.arg kz4 ky4 rfl rfl rfl rfl rfl (.call (j := 131) (n := 4) (ci := 12) (a := 0) (r := []) rfl rfl rfl rfl rfl h1 ?_)))))
  refine .x (k := kF2) (a := 170) rfl rfl (.arg kz1 ky1 rfl rfl rfl rfl rfl (.arg kz2 ky2 rfl rfl rfl rfl rfl (.arg kz3 ky3 rfl rfl rfl rfl rfl (.arg kz4 ky4 rfl rfl rfl rfl rfl (.call (j := 238) (n := 4) (ci := 13) (a := 170) (r := [.int x]) rfl rfl rfl h5 rfl h2 ?_)))))
  exact .eq rfl (.tail (by omega) (by omega))
theorem kcase_10 (h : kSame 40 true 133 249 [.int (xs 1)] kH0) (hc : c ≤ 500000) (hs : s ≤ 7000000) : kGoal xs 5 552 (kLL (Int32.ofInt 0)) [] kH0 c s := by
  obtain ⟨v, ph1, ph2, c1, s1, c2, s2, h1, h2, h3, h4, ⟨fs, h5⟩, h6, h7⟩ := h
  obtain ⟨x, rfl⟩ := h6 rfl
  refine .x (k := kF1) (a := 0) rfl rfl (.arg kz1 ky1 rfl rfl rfl rfl rfl (.call (j := 133) (n := 1) (ci := 12) (a := 0) (r := []) rfl rfl rfl rfl rfl h1 ?_))
  refine .x (k := kF2) (a := 170) rfl rfl (.arg kz1 ky1 rfl rfl rfl rfl rfl (.call (j := 249) (n := 1) (ci := 13) (a := 170) (r := [.int x]) rfl rfl rfl h5 rfl h2 ?_))
  exact .eq rfl (.tail (by omega) (by omega))
theorem kcase_11 (h : kSame 40 true 134 250 [.int (xs 1), .int (xs 2)] kH0) (hc : c ≤ 500000) (hs : s ≤ 7000000) : kGoal xs 5 577 (kLL (Int32.ofInt 0)) [] kH0 c s := by
  obtain ⟨v, ph1, ph2, c1, s1, c2, s2, h1, h2, h3, h4, ⟨fs, h5⟩, h6, h7⟩ := h
  obtain ⟨x, rfl⟩ := h6 rfl
  refine .x (k := kF1) (a := 0) rfl rfl (.arg kz1 ky1 rfl rfl rfl rfl rfl (.arg kz2 ky2 rfl rfl rfl rfl rfl (.call (j := 134) (n := 2) (ci := 12) (a := 0) (r := []) rfl rfl rfl rfl rfl h1 ?_)))
  refine .x (k := kF2) (a := 170) rfl rfl (.arg kz1 ky1 rfl rfl rfl rfl rfl (.arg kz2 ky2 rfl rfl rfl rfl rfl (.call (j := 250) (n := 2) (ci := 13) (a := 170) (r := [.int x]) rfl rfl rfl h5 rfl h2 ?_)))
  exact .eq rfl (.tail (by omega) (by omega))
theorem kcase_12 (h : kSame 40 true 135 251 [.int (xs 1), .int (xs 2)] kH0) (hc : c ≤ 500000) (hs : s ≤ 7000000) : kGoal xs 5 614 (kLL (Int32.ofInt 0)) [] kH0 c s := by
  obtain ⟨v, ph1, ph2, c1, s1, c2, s2, h1, h2, h3, h4, ⟨fs, h5⟩, h6, h7⟩ := h
  obtain ⟨x, rfl⟩ := h6 rfl
  refine .x (k := kF1) (a := 0) rfl rfl (.arg kz1 ky1 rfl rfl rfl rfl rfl (.arg kz2 ky2 rfl rfl rfl rfl rfl (.call (j := 135) (n := 2) (ci := 12) (a := 0) (r := []) rfl rfl rfl rfl rfl h1 ?_)))
  refine .x (k := kF2) (a := 170) rfl rfl (.arg kz1 ky1 rfl rfl rfl rfl rfl (.arg kz2 ky2 rfl rfl rfl rfl rfl (.call (j := 251) (n := 2) (ci := 13) (a := 170) (r := [.int x]) rfl rfl rfl h5 rfl h2 ?_)))
  exact .eq rfl (.tail (by omega) (by omega))
theorem kcase_13 (h : kSame 40 true 136 252 [.int (xs 1), .int (xs 2)] kH0) (hc : c ≤ 500000) (hs : s ≤ 7000000) : kGoal xs 5 651 (kLL (Int32.ofInt 0)) [] kH0 c s := by
  obtain ⟨v, ph1, ph2, c1, s1, c2, s2, h1, h2, h3, h4, ⟨fs, h5⟩, h6, h7⟩ := h
  obtain ⟨x, rfl⟩ := h6 rfl
  refine .x (k := kF1) (a := 0) rfl rfl (.arg kz1 ky1 rfl rfl rfl rfl rfl (.arg kz2 ky2 rfl rfl rfl rfl rfl (.call (j := 136) (n := 2) (ci := 12) (a := 0) (r := []) rfl rfl rfl rfl rfl h1 ?_)))
  refine .x (k := kF2) (a := 170) rfl rfl (.arg kz1 ky1 rfl rfl rfl rfl rfl (.arg kz2 ky2 rfl rfl rfl rfl rfl (.call (j := 252) (n := 2) (ci := 13) (a := 170) (r := [.int x]) rfl rfl rfl h5 rfl h2 ?_)))
  exact .eq rfl (.tail (by omega) (by omega))
theorem kcase_14 (h : kSame 40 true 137 253 [.int (xs 1), .int (xs 2)] kH0) (hc : c ≤ 500000) (hs : s ≤ 7000000) : kGoal xs 5 688 (kLL (Int32.ofInt 0)) [] kH0 c s := by
  obtain ⟨v, ph1, ph2, c1, s1, c2, s2, h1, h2, h3, h4, ⟨fs, h5⟩, h6, h7⟩ := h
  obtain ⟨x, rfl⟩ := h6 rfl
  refine .x (k := kF1) (a := 0) rfl rfl (.arg kz1 ky1 rfl rfl rfl rfl rfl (.arg kz2 ky2 rfl rfl rfl rfl rfl (.call (j := 137) (n := 2) (ci := 12) (a := 0) (r := []) rfl rfl rfl rfl rfl h1 ?_)))
  refine .x (k := kF2) (a := 170) rfl rfl (.arg kz1 ky1 rfl rfl rfl rfl rfl (.arg kz2 ky2 rfl rfl rfl rfl rfl (.call (j := 253) (n := 2) (ci := 13) (a := 170) (r := [.int x]) rfl rfl rfl h5 rfl h2 ?_)))
  exact .eq rfl (.tail (by omega) (by omega))
theorem kcase_15 (h : kSame 40 true 138 256 [] kH0) (hc : c ≤ 500000) (hs : s ≤ 7000000) : kGoal xs 5 725 (kLL (Int32.ofInt 0)) [] kH0 c s := by
  obtain ⟨v, ph1, ph2, c1, s1, c2, s2, h1, h2, h3, h4, ⟨fs, h5⟩, h6, h7⟩ := h
  obtain ⟨x, rfl⟩ := h6 rfl
  refine .x (k := kF1) (a := 0) rfl rfl (.call (j := 138) (n := 0) (ci := 12) (a := 0) (r := []) rfl rfl rfl rfl rfl h1 ?_)
  refine .x (k := kF2) (a := 170) rfl rfl (.call (j := 256) (n := 0) (ci := 13) (a := 170) (r := [.int x]) rfl rfl rfl h5 rfl h2 ?_)
  exact .eq rfl (.tail (by omega) (by omega))
theorem kcase_16 (h : kSame 40 true 139 242 [] kH0) (hc : c ≤ 500000) (hs : s ≤ 7000000) : kGoal xs 5 738 (kLL (Int32.ofInt 0)) [] kH0 c s := by
  obtain ⟨v, ph1, ph2, c1, s1, c2, s2, h1, h2, h3, h4, ⟨fs, h5⟩, h6, h7⟩ := h
  obtain ⟨x, rfl⟩ := h6 rfl
  refine .x (k := kF1) (a := 0) rfl rfl (.call (j := 139) (n := 0) (ci := 12) (a := 0) (r := []) rfl rfl rfl rfl rfl h1 ?_)
  refine .x (k := kF2) (a := 170) rfl rfl (.call (j := 242) (n := 0) (ci := 13) (a := 170) (r := [.int x]) rfl rfl rfl h5 rfl h2 ?_)
  exact .eq rfl (.tail (by omega) (by omega))
theorem kcase_17 (h : kSame 40 false 147 258 [.int (xs 1)] kH0) (hc : c ≤ 500000) (hs : s ≤ 7000000) : kGoal xs 5 751 (kLL (Int32.ofInt 0)) [] kH0 c s := by
  obtain ⟨v, ph1, ph2, c1, s1, c2, s2, h1, h2, h3, h4, ⟨fs, h5⟩, h6, h7⟩ := h
  obtain ⟨x, rfl⟩ := h7 rfl
  refine .x (k := kF1) (a := 0) rfl rfl (.arg kz1 ky1 rfl rfl rfl rfl rfl (.call (j := 147) (n := 1) (ci := 12) (a := 0) (r := []) rfl rfl rfl rfl rfl h1 ?_))
  refine .x (k := kF2) (a := 170) rfl rfl (.arg kz1 ky1 rfl rfl rfl rfl rfl (.call (j := 258) (n := 1) (ci := 13) (a := 170) (r := [.long x]) rfl rfl rfl h5 rfl h2 ?_))
  exact .leq rfl rfl (.tail (by omega) (by omega))
theorem kcase_18 (h : kSame 40 true 148 259 [.int (xs 1)] kH0) (hc : c ≤ 500000) (hs : s ≤ 7000000) : kGoal xs 5 777 (kLL (Int32.ofInt 0)) [] kH0 c s := by
  obtain ⟨v, ph1, ph2, c1, s1, c2, s2, h1, h2, h3, h4, ⟨fs, h5⟩, h6, h7⟩ := h
  obtain ⟨x, rfl⟩ := h6 rfl
  refine .x (k := kF1) (a := 0) rfl rfl (.arg kz1 ky1 rfl rfl rfl rfl rfl (.call (j := 148) (n := 1) (ci := 12) (a := 0) (r := []) rfl rfl rfl rfl rfl h1 ?_))
  refine .x (k := kF2) (a := 170) rfl rfl (.arg kz1 ky1 rfl rfl rfl rfl rfl (.call (j := 259) (n := 1) (ci := 13) (a := 170) (r := [.int x]) rfl rfl rfl h5 rfl h2 ?_))
  exact .eq rfl (.tail (by omega) (by omega))
theorem kcase_19 (h : kSame 40 false 149 261 [] kH0) (hc : c ≤ 500000) (hs : s ≤ 7000000) : kGoal xs 5 802 (kLL (Int32.ofInt 0)) [] kH0 c s := by
  obtain ⟨v, ph1, ph2, c1, s1, c2, s2, h1, h2, h3, h4, ⟨fs, h5⟩, h6, h7⟩ := h
  obtain ⟨x, rfl⟩ := h7 rfl
  refine .x (k := kF1) (a := 0) rfl rfl (.call (j := 149) (n := 0) (ci := 12) (a := 0) (r := []) rfl rfl rfl rfl rfl h1 ?_)
  refine .x (k := kF2) (a := 170) rfl rfl (.call (j := 261) (n := 0) (ci := 13) (a := 170) (r := [.long x]) rfl rfl rfl h5 rfl h2 ?_)
  exact .leq rfl rfl (.tail (by omega) (by omega))
theorem kcase_20 (h : kSame 40 true 150 262 [] kH0) (hc : c ≤ 500000) (hs : s ≤ 7000000) : kGoal xs 5 816 (kLL (Int32.ofInt 0)) [] kH0 c s := by
  obtain ⟨v, ph1, ph2, c1, s1, c2, s2, h1, h2, h3, h4, ⟨fs, h5⟩, h6, h7⟩ := h
  obtain ⟨x, rfl⟩ := h6 rfl
  refine .x (k := kF1) (a := 0) rfl rfl (.call (j := 150) (n := 0) (ci := 12) (a := 0) (r := []) rfl rfl rfl rfl rfl h1 ?_)
  refine .x (k := kF2) (a := 170) rfl rfl (.call (j := 262) (n := 0) (ci := 13) (a := 170) (r := [.int x]) rfl rfl rfl h5 rfl h2 ?_)
  exact .eq rfl (.tail (by omega) (by omega))
theorem kcase_21 (h : kSame 40 true 151 263 [.int (xs 1)] kH0) (hc : c ≤ 500000) (hs : s ≤ 7000000) : kGoal xs 5 829 (kLL (Int32.ofInt 0)) [] kH0 c s := by
  obtain ⟨v, ph1, ph2, c1, s1, c2, s2, h1, h2, h3, h4, ⟨fs, h5⟩, h6, h7⟩ := h
  obtain ⟨x, rfl⟩ := h6 rfl
  refine .x (k := kF1) (a := 0) rfl rfl (.arg kz1 ky1 rfl rfl rfl rfl rfl (.call (j := 151) (n := 1) (ci := 12) (a := 0) (r := []) rfl rfl rfl rfl rfl h1 ?_))
  refine .x (k := kF2) (a := 170) rfl rfl (.arg kz1 ky1 rfl rfl rfl rfl rfl (.call (j := 263) (n := 1) (ci := 13) (a := 170) (r := [.int x]) rfl rfl rfl h5 rfl h2 ?_))
  exact .eq rfl (.tail (by omega) (by omega))
theorem kcase_22 (h : kSame 40 true 152 264 [] kH0) (hc : c ≤ 500000) (hs : s ≤ 7000000) : kGoal xs 5 854 (kLL (Int32.ofInt 0)) [] kH0 c s := by
  obtain ⟨v, ph1, ph2, c1, s1, c2, s2, h1, h2, h3, h4, ⟨fs, h5⟩, h6, h7⟩ := h
  obtain ⟨x, rfl⟩ := h6 rfl
  refine .x (k := kF1) (a := 0) rfl rfl (.call (j := 152) (n := 0) (ci := 12) (a := 0) (r := []) rfl rfl rfl rfl rfl h1 ?_)
  refine .x (k := kF2) (a := 170) rfl rfl (.call (j := 264) (n := 0) (ci := 13) (a := 170) (r := [.int x]) rfl rfl rfl h5 rfl h2 ?_)
  exact .eq rfl (.tail (by omega) (by omega))
theorem kcase_23 (h : kSame 40 true 153 266 [] kH0) (hc : c ≤ 500000) (hs : s ≤ 7000000) : kGoal xs 5 867 (kLL (Int32.ofInt 0)) [] kH0 c s := by
  obtain ⟨v, ph1, ph2, c1, s1, c2, s2, h1, h2, h3, h4, ⟨fs, h5⟩, h6, h7⟩ := h
  obtain ⟨x, rfl⟩ := h6 rfl
  refine .x (k := kF1) (a := 0) rfl rfl (.call (j := 153) (n := 0) (ci := 12) (a := 0) (r := []) rfl rfl rfl rfl rfl h1 ?_)
  refine .x (k := kF2) (a := 170) rfl rfl (.call (j := 266) (n := 0) (ci := 13) (a := 170) (r := [.int x]) rfl rfl rfl h5 rfl h2 ?_)
  exact .eq rfl (.tail (by omega) (by omega))
theorem kcase_24 (h : kSame 40 true 154 267 [.int (xs 1), .int (xs 2)] kH0) (hc : c ≤ 500000) (hs : s ≤ 7000000) : kGoal xs 5 880 (kLL (Int32.ofInt 0)) [] kH0 c s := by
  obtain ⟨v, ph1, ph2, c1, s1, c2, s2, h1, h2, h3, h4, ⟨fs, h5⟩, h6, h7⟩ := h
  obtain ⟨x, rfl⟩ := h6 rfl
  refine .x (k := kF1) (a := 0) rfl rfl (.arg kz1 ky1 rfl rfl rfl rfl rfl (.arg kz2 ky2 rfl rfl rfl rfl rfl (.call (j := 154) (n := 2) (ci := 12) (a := 0) (r := []) rfl rfl rfl rfl rfl h1 ?_)))
  refine .x (k := kF2) (a := 170) rfl rfl (.arg kz1 ky1 rfl rfl rfl rfl rfl (.arg kz2 ky2 rfl rfl rfl rfl rfl (.call (j := 267) (n := 2) (ci := 13) (a := 170) (r := [.int x]) rfl rfl rfl h5 rfl h2 ?_)))
  exact .eq rfl (.tail (by omega) (by omega))
theorem kcase_25 (h : kSame 40 true 155 269 [] kH0) (hc : c ≤ 500000) (hs : s ≤ 7000000) : kGoal xs 5 917 (kLL (Int32.ofInt 0)) [] kH0 c s := by
  obtain ⟨v, ph1, ph2, c1, s1, c2, s2, h1, h2, h3, h4, ⟨fs, h5⟩, h6, h7⟩ := h
  obtain ⟨x, rfl⟩ := h6 rfl
  refine .x (k := kF1) (a := 0) rfl rfl (.call (j := 155) (n := 0) (ci := 12) (a := 0) (r := []) rfl rfl rfl rfl rfl h1 ?_)
  refine .x (k := kF2) (a := 170) rfl rfl (.call (j := 269) (n := 0) (ci := 13) (a := 170) (r := [.int x]) rfl rfl rfl h5 rfl h2 ?_)
  exact .eq rfl (.tail (by omega) (by omega))
theorem kcase_26 (h : kSame 40 true 156 270 [.int (xs 1)] kH0) (hc : c ≤ 500000) (hs : s ≤ 7000000) : kGoal xs 5 930 (kLL (Int32.ofInt 0)) [] kH0 c s := by
  obtain ⟨v, ph1, ph2, c1, s1, c2, s2, h1, h2, h3, h4, ⟨fs, h5⟩, h6, h7⟩ := h
  obtain ⟨x, rfl⟩ := h6 rfl
  refine .x (k := kF1) (a := 0) rfl rfl (.arg kz1 ky1 rfl rfl rfl rfl rfl (.call (j := 156) (n := 1) (ci := 12) (a := 0) (r := []) rfl rfl rfl rfl rfl h1 ?_))
  refine .x (k := kF2) (a := 170) rfl rfl (.arg kz1 ky1 rfl rfl rfl rfl rfl (.call (j := 270) (n := 1) (ci := 13) (a := 170) (r := [.int x]) rfl rfl rfl h5 rfl h2 ?_))
  exact .eq rfl (.tail (by omega) (by omega))
theorem kcase_27 (h : kSame 40 true 157 271 [.int (xs 1)] kH0) (hc : c ≤ 500000) (hs : s ≤ 7000000) : kGoal xs 5 955 (kLL (Int32.ofInt 0)) [] kH0 c s := by
  obtain ⟨v, ph1, ph2, c1, s1, c2, s2, h1, h2, h3, h4, ⟨fs, h5⟩, h6, h7⟩ := h
  obtain ⟨x, rfl⟩ := h6 rfl
  refine .x (k := kF1) (a := 0) rfl rfl (.arg kz1 ky1 rfl rfl rfl rfl rfl (.call (j := 157) (n := 1) (ci := 12) (a := 0) (r := []) rfl rfl rfl rfl rfl h1 ?_))
  refine .x (k := kF2) (a := 170) rfl rfl (.arg kz1 ky1 rfl rfl rfl rfl rfl (.call (j := 271) (n := 1) (ci := 13) (a := 170) (r := [.int x]) rfl rfl rfl h5 rfl h2 ?_))
  exact .eq rfl (.tail (by omega) (by omega))
theorem kcase_28 (h : kSame 40 true 158 273 [.int (xs 1), .int (xs 2)] kH0) (hc : c ≤ 500000) (hs : s ≤ 7000000) : kGoal xs 5 980 (kLL (Int32.ofInt 0)) [] kH0 c s := by
  obtain ⟨v, ph1, ph2, c1, s1, c2, s2, h1, h2, h3, h4, ⟨fs, h5⟩, h6, h7⟩ := h
  obtain ⟨x, rfl⟩ := h6 rfl
  refine .x (k := kF1) (a := 0) rfl rfl (.arg kz1 ky1 rfl rfl rfl rfl rfl (.arg kz2 ky2 rfl rfl rfl rfl rfl (.call (j := 158) (n := 2) (ci := 12) (a := 0) (r := []) rfl rfl rfl rfl rfl h1 ?_)))
  refine .x (k := kF2) (a := 170) rfl rfl (.arg kz1 ky1 rfl rfl rfl rfl rfl (.arg kz2 ky2 rfl rfl rfl rfl rfl (.call (j := 273) (n := 2) (ci := 13) (a := 170) (r := [.int x]) rfl rfl rfl h5 rfl h2 ?_)))
  exact .eq rfl (.tail (by omega) (by omega))
theorem kcase_29 (h : kSame 40 true 159 277 [] kH0) (hc : c ≤ 500000) (hs : s ≤ 7000000) : kGoal xs 5 1017 (kLL (Int32.ofInt 0)) [] kH0 c s := by
  obtain ⟨v, ph1, ph2, c1, s1, c2, s2, h1, h2, h3, h4, ⟨fs, h5⟩, h6, h7⟩ := h
  obtain ⟨x, rfl⟩ := h6 rfl
  refine .x (k := kF1) (a := 0) rfl rfl (.call (j := 159) (n := 0) (ci := 12) (a := 0) (r := []) rfl rfl rfl rfl rfl h1 ?_)
  refine .x (k := kF2) (a := 170) rfl rfl (.call (j := 277) (n := 0) (ci := 13) (a := 170) (r := [.int x]) rfl rfl rfl h5 rfl h2 ?_)
  exact .eq rfl (.tail (by omega) (by omega))
theorem kcase_30 (h : kSame 40 true 160 278 [.int (xs 1)] kH0) (hc : c ≤ 500000) (hs : s ≤ 7000000) : kGoal xs 5 1030 (kLL (Int32.ofInt 0)) [] kH0 c s := by
  obtain ⟨v, ph1, ph2, c1, s1, c2, s2, h1, h2, h3, h4, ⟨fs, h5⟩, h6, h7⟩ := h
  obtain ⟨x, rfl⟩ := h6 rfl
  refine .x (k := kF1) (a := 0) rfl rfl (.arg kz1 ky1 rfl rfl rfl rfl rfl (.call (j := 160) (n := 1) (ci := 12) (a := 0) (r := []) rfl rfl rfl rfl rfl h1 ?_))
  refine .x (k := kF2) (a := 170) rfl rfl (.arg kz1 ky1 rfl rfl rfl rfl rfl (.call (j := 278) (n := 1) (ci := 13) (a := 170) (r := [.int x]) rfl rfl rfl h5 rfl h2 ?_))
  exact .eq rfl (.tail (by omega) (by omega))
theorem kcase_31 (h : kSame 40 true 161 279 [.int (xs 1), .int (xs 2)] kH0) (hc : c ≤ 500000) (hs : s ≤ 7000000) : kGoal xs 5 1055 (kLL (Int32.ofInt 0)) [] kH0 c s := by
  obtain ⟨v, ph1, ph2, c1, s1, c2, s2, h1, h2, h3, h4, ⟨fs, h5⟩, h6, h7⟩ := h
  obtain ⟨x, rfl⟩ := h6 rfl
  refine .x (k := kF1) (a := 0) rfl rfl (.arg kz1 ky1 rfl rfl rfl rfl rfl (.arg kz2 ky2 rfl rfl rfl rfl rfl (.call (j := 161) (n := 2) (ci := 12) (a := 0) (r := []) rfl rfl rfl rfl rfl h1 ?_)))
  refine .x (k := kF2) (a := 170) rfl rfl (.arg kz1 ky1 rfl rfl rfl rfl rfl (.arg kz2 ky2 rfl rfl rfl rfl rfl (.call (j := 279) (n := 2) (ci := 13) (a := 170) (r := [.int x]) rfl rfl rfl h5 rfl h2 ?_)))
  exact .eq rfl (.tail (by omega) (by omega))
theorem kcase_32 (h : kSame 40 true 164 282 [.int (xs 1), .int (xs 2)] kH0) (hc : c ≤ 500000) (hs : s ≤ 7000000) : kGoal xs 5 1092 (kLL (Int32.ofInt 0)) [] kH0 c s := by
  obtain ⟨v, ph1, ph2, c1, s1, c2, s2, h1, h2, h3, h4, ⟨fs, h5⟩, h6, h7⟩ := h
  obtain ⟨x, rfl⟩ := h6 rfl
  refine .x (k := kF1) (a := 0) rfl rfl (.arg kz1 ky1 rfl rfl rfl rfl rfl (.arg kz2 ky2 rfl rfl rfl rfl rfl (.call (j := 164) (n := 2) (ci := 12) (a := 0) (r := []) rfl rfl rfl rfl rfl h1 ?_)))
  refine .x (k := kF2) (a := 170) rfl rfl (.arg kz1 ky1 rfl rfl rfl rfl rfl (.arg kz2 ky2 rfl rfl rfl rfl rfl (.call (j := 282) (n := 2) (ci := 13) (a := 170) (r := [.int x]) rfl rfl rfl h5 rfl h2 ?_)))
  exact .eq rfl (.tail (by omega) (by omega))
theorem kcase_33 (h : kSame 40 true 165 283 [.int (xs 1), .int (xs 2)] kH0) (hc : c ≤ 500000) (hs : s ≤ 7000000) : kGoal xs 5 1129 (kLL (Int32.ofInt 0)) [] kH0 c s := by
  obtain ⟨v, ph1, ph2, c1, s1, c2, s2, h1, h2, h3, h4, ⟨fs, h5⟩, h6, h7⟩ := h
  obtain ⟨x, rfl⟩ := h6 rfl
  refine .x (k := kF1) (a := 0) rfl rfl (.arg kz1 ky1 rfl rfl rfl rfl rfl (.arg kz2 ky2 rfl rfl rfl rfl rfl (.call (j := 165) (n := 2) (ci := 12) (a := 0) (r := []) rfl rfl rfl rfl rfl h1 ?_)))
  refine .x (k := kF2) (a := 170) rfl rfl (.arg kz1 ky1 rfl rfl rfl rfl rfl (.arg kz2 ky2 rfl rfl rfl rfl rfl (.call (j := 283) (n := 2) (ci := 13) (a := 170) (r := [.int x]) rfl rfl rfl h5 rfl h2 ?_)))
  exact .eq rfl (.tail (by omega) (by omega))
theorem kcase_34 (h : kSame 40 true 166 284 [.int (xs 1), .int (xs 2)] kH0) (hc : c ≤ 500000) (hs : s ≤ 7000000) : kGoal xs 5 1166 (kLL (Int32.ofInt 0)) [] kH0 c s := by
  obtain ⟨v, ph1, ph2, c1, s1, c2, s2, h1, h2, h3, h4, ⟨fs, h5⟩, h6, h7⟩ := h
  obtain ⟨x, rfl⟩ := h6 rfl
  refine .x (k := kF1) (a := 0) rfl rfl (.arg kz1 ky1 rfl rfl rfl rfl rfl (.arg kz2 ky2 rfl rfl rfl rfl rfl (.call (j := 166) (n := 2) (ci := 12) (a := 0) (r := []) rfl rfl rfl rfl rfl h1 ?_)))
  refine .x (k := kF2) (a := 170) rfl rfl (.arg kz1 ky1 rfl rfl rfl rfl rfl (.arg kz2 ky2 rfl rfl rfl rfl rfl (.call (j := 284) (n := 2) (ci := 13) (a := 170) (r := [.int x]) rfl rfl rfl h5 rfl h2 ?_)))
  exact .eq rfl (.tail (by omega) (by omega))
theorem kcase_35 (h : kSame 40 true 167 285 [] kH0) (hc : c ≤ 500000) (hs : s ≤ 7000000) : kGoal xs 5 1203 (kLL (Int32.ofInt 0)) [] kH0 c s := by
  obtain ⟨v, ph1, ph2, c1, s1, c2, s2, h1, h2, h3, h4, ⟨fs, h5⟩, h6, h7⟩ := h
  obtain ⟨x, rfl⟩ := h6 rfl
  refine .x (k := kF1) (a := 0) rfl rfl (.call (j := 167) (n := 0) (ci := 12) (a := 0) (r := []) rfl rfl rfl rfl rfl h1 ?_)
  refine .x (k := kF2) (a := 170) rfl rfl (.call (j := 285) (n := 0) (ci := 13) (a := 170) (r := [.int x]) rfl rfl rfl h5 rfl h2 ?_)
  exact .eq rfl (.tail (by omega) (by omega))
theorem kcase_36 (h : kSame 40 false 168 287 [] kH0) (hc : c ≤ 500000) (hs : s ≤ 7000000) : kGoal xs 5 1216 (kLL (Int32.ofInt 0)) [] kH0 c s := by
  obtain ⟨v, ph1, ph2, c1, s1, c2, s2, h1, h2, h3, h4, ⟨fs, h5⟩, h6, h7⟩ := h
  obtain ⟨x, rfl⟩ := h7 rfl
  refine .x (k := kF1) (a := 0) rfl rfl (.call (j := 168) (n := 0) (ci := 12) (a := 0) (r := []) rfl rfl rfl rfl rfl h1 ?_)
  refine .x (k := kF2) (a := 170) rfl rfl (.call (j := 287) (n := 0) (ci := 13) (a := 170) (r := [.long x]) rfl rfl rfl h5 rfl h2 ?_)
  exact .leq rfl rfl (.tail (by omega) (by omega))
theorem kcase_37 (h : kSame 40 true 169 288 [] kH0) (hc : c ≤ 500000) (hs : s ≤ 7000000) : kGoal xs 5 1230 (kLL (Int32.ofInt 0)) [] kH0 c s := by
  obtain ⟨v, ph1, ph2, c1, s1, c2, s2, h1, h2, h3, h4, ⟨fs, h5⟩, h6, h7⟩ := h
  obtain ⟨x, rfl⟩ := h6 rfl
  refine .x (k := kF1) (a := 0) rfl rfl (.call (j := 169) (n := 0) (ci := 12) (a := 0) (r := []) rfl rfl rfl rfl rfl h1 ?_)
  refine .x (k := kF2) (a := 170) rfl rfl (.call (j := 288) (n := 0) (ci := 13) (a := 170) (r := [.int x]) rfl rfl rfl h5 rfl h2 ?_)
  exact .eq rfl (.tail (by omega) (by omega))
theorem kcase_38 (h : kSame 40 true 171 289 [.int (xs 1), .int (xs 2), .int (xs 3)] kH0) (hc : c ≤ 500000) (hs : s ≤ 7000000) : kGoal xs 5 1243 (kLL (Int32.ofInt 0)) [] kH0 c s := by
  obtain ⟨v, ph1, ph2, c1, s1, c2, s2, h1, h2, h3, h4, ⟨fs, h5⟩, h6, h7⟩ := h
  obtain ⟨x, rfl⟩ := h6 rfl
  refine .x (k := kF1) (a := 0) rfl rfl (.arg kz1 ky1 rfl rfl rfl rfl rfl (.arg kz2 ky2 rfl rfl rfl rfl rfl (.arg kz3 ky3 rfl rfl rfl rfl rfl (.call (j := 171) (n := 3) (ci := 12) (a := 0) (r := []) rfl rfl rfl rfl rfl h1 ?_))))
  refine .x (k := kF2) (a := 170) rfl rfl (.arg kz1 ky1 rfl rfl rfl rfl rfl (.arg kz2 ky2 rfl rfl rfl rfl rfl (.arg kz3 ky3 rfl rfl rfl rfl rfl (.call (j := 289) (n := 3) (ci := 13) (a := 170) (r := [.int x]) rfl rfl rfl h5 rfl h2 ?_))))
  exact .eq rfl (.tail (by omega) (by omega))
theorem kcase_39 (h : kSame 40 true 172 290 [.int (xs 1), .int (xs 2)] kH0) (hc : c ≤ 500000) (hs : s ≤ 7000000) : kGoal xs 5 1292 (kLL (Int32.ofInt 0)) [] kH0 c s := by
  obtain ⟨v, ph1, ph2, c1, s1, c2, s2, h1, h2, h3, h4, ⟨fs, h5⟩, h6, h7⟩ := h
  obtain ⟨x, rfl⟩ := h6 rfl
  refine .x (k := kF1) (a := 0) rfl rfl (.arg kz1 ky1 rfl rfl rfl rfl rfl (.arg kz2 ky2 rfl rfl rfl rfl rfl (.call (j := 172) (n := 2) (ci := 12) (a := 0) (r := []) rfl rfl rfl rfl rfl h1 ?_)))
  refine .x (k := kF2) (a := 170) rfl rfl (.arg kz1 ky1 rfl rfl rfl rfl rfl (.arg kz2 ky2 rfl rfl rfl rfl rfl (.call (j := 290) (n := 2) (ci := 13) (a := 170) (r := [.int x]) rfl rfl rfl h5 rfl h2 ?_)))
  exact .eq rfl (.tail (by omega) (by omega))
theorem kcase_40 (h : kSame 40 true 173 291 [] kH0) (hc : c ≤ 500000) (hs : s ≤ 7000000) : kGoal xs 5 1329 (kLL (Int32.ofInt 0)) [] kH0 c s := by
  obtain ⟨v, ph1, ph2, c1, s1, c2, s2, h1, h2, h3, h4, ⟨fs, h5⟩, h6, h7⟩ := h
  obtain ⟨x, rfl⟩ := h6 rfl
  refine .x (k := kF1) (a := 0) rfl rfl (.call (j := 173) (n := 0) (ci := 12) (a := 0) (r := []) rfl rfl rfl rfl rfl h1 ?_)
  refine .x (k := kF2) (a := 170) rfl rfl (.call (j := 291) (n := 0) (ci := 13) (a := 170) (r := [.int x]) rfl rfl rfl h5 rfl h2 ?_)
  exact .eq rfl (.tail (by omega) (by omega))
theorem kcase_41 (h : kSame 40 true 174 294 [.int (xs 1)] kH0) (hc : c ≤ 500000) (hs : s ≤ 7000000) : kGoal xs 5 1342 (kLL (Int32.ofInt 0)) [] kH0 c s := by
  obtain ⟨v, ph1, ph2, c1, s1, c2, s2, h1, h2, h3, h4, ⟨fs, h5⟩, h6, h7⟩ := h
  obtain ⟨x, rfl⟩ := h6 rfl
  refine .x (k := kF1) (a := 0) rfl rfl (.arg kz1 ky1 rfl rfl rfl rfl rfl (.call (j := 174) (n := 1) (ci := 12) (a := 0) (r := []) rfl rfl rfl rfl rfl h1 ?_))
  refine .x (k := kF2) (a := 170) rfl rfl (.arg kz1 ky1 rfl rfl rfl rfl rfl (.call (j := 294) (n := 1) (ci := 13) (a := 170) (r := [.int x]) rfl rfl rfl h5 rfl h2 ?_))
  exact .eq rfl (.tail (by omega) (by omega))
theorem kcase_42 (h : kSame 40 true 175 296 [.int (xs 1), .int (xs 2)] kH0) (hc : c ≤ 500000) (hs : s ≤ 7000000) : kGoal xs 5 1367 (kLL (Int32.ofInt 0)) [] kH0 c s := by
  obtain ⟨v, ph1, ph2, c1, s1, c2, s2, h1, h2, h3, h4, ⟨fs, h5⟩, h6, h7⟩ := h
  obtain ⟨x, rfl⟩ := h6 rfl
  refine .x (k := kF1) (a := 0) rfl rfl (.arg kz1 ky1 rfl rfl rfl rfl rfl (.arg kz2 ky2 rfl rfl rfl rfl rfl (.call (j := 175) (n := 2) (ci := 12) (a := 0) (r := []) rfl rfl rfl rfl rfl h1 ?_)))
  refine .x (k := kF2) (a := 170) rfl rfl (.arg kz1 ky1 rfl rfl rfl rfl rfl (.arg kz2 ky2 rfl rfl rfl rfl rfl (.call (j := 296) (n := 2) (ci := 13) (a := 170) (r := [.int x]) rfl rfl rfl h5 rfl h2 ?_)))
  exact .eq rfl (.tail (by omega) (by omega))
theorem kcase_43 (h : kSame 40 true 177 297 [.int (xs 1)] kH0) (hc : c ≤ 500000) (hs : s ≤ 7000000) : kGoal xs 5 1404 (kLL (Int32.ofInt 0)) [] kH0 c s := by
  obtain ⟨v, ph1, ph2, c1, s1, c2, s2, h1, h2, h3, h4, ⟨fs, h5⟩, h6, h7⟩ := h
  obtain ⟨x, rfl⟩ := h6 rfl
  refine .x (k := kF1) (a := 0) rfl rfl (.arg kz1 ky1 rfl rfl rfl rfl rfl (.call (j := 177) (n := 1) (ci := 12) (a := 0) (r := []) rfl rfl rfl rfl rfl h1 ?_))
  refine .x (k := kF2) (a := 170) rfl rfl (.arg kz1 ky1 rfl rfl rfl rfl rfl (.call (j := 297) (n := 1) (ci := 13) (a := 170) (r := [.int x]) rfl rfl rfl h5 rfl h2 ?_))
  exact .eq rfl (.tail (by omega) (by omega))
theorem kcase_44 (h : kSame 40 true 178 298 [.int (xs 1)] kH0) (hc : c ≤ 500000) (hs : s ≤ 7000000) : kGoal xs 5 1429 (kLL (Int32.ofInt 0)) [] kH0 c s := by
  obtain ⟨v, ph1, ph2, c1, s1, c2, s2, h1, h2, h3, h4, ⟨fs, h5⟩, h6, h7⟩ := h
  obtain ⟨x, rfl⟩ := h6 rfl
  refine .x (k := kF1) (a := 0) rfl rfl (.arg kz1 ky1 rfl rfl rfl rfl rfl (.call (j := 178) (n := 1) (ci := 12) (a := 0) (r := []) rfl rfl rfl rfl rfl h1 ?_))
  refine .x (k := kF2) (a := 170) rfl rfl (.arg kz1 ky1 rfl rfl rfl rfl rfl (.call (j := 298) (n := 1) (ci := 13) (a := 170) (r := [.int x]) rfl rfl rfl h5 rfl h2 ?_))
  exact .eq rfl (.tail (by omega) (by omega))
theorem kcase_45 (h : kSame 40 true 179 299 [.int (xs 1)] kH0) (hc : c ≤ 500000) (hs : s ≤ 7000000) : kGoal xs 5 1454 (kLL (Int32.ofInt 0)) [] kH0 c s := by
  obtain ⟨v, ph1, ph2, c1, s1, c2, s2, h1, h2, h3, h4, ⟨fs, h5⟩, h6, h7⟩ := h
  obtain ⟨x, rfl⟩ := h6 rfl
  refine .x (k := kF1) (a := 0) rfl rfl (.arg kz1 ky1 rfl rfl rfl rfl rfl (.call (j := 179) (n := 1) (ci := 12) (a := 0) (r := []) rfl rfl rfl rfl rfl h1 ?_))
  refine .x (k := kF2) (a := 170) rfl rfl (.arg kz1 ky1 rfl rfl rfl rfl rfl (.call (j := 299) (n := 1) (ci := 13) (a := 170) (r := [.int x]) rfl rfl rfl h5 rfl h2 ?_))
  exact .eq rfl (.tail (by omega) (by omega))
end KLR
