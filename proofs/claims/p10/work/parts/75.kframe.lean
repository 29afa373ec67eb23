/-! The law's frame, call by call, printed by wip/x/claw.py -/
theorem kbe {o : Int} {aux pc : Nat} {r : Int32} {q : List Value} : pm_br (.if_icmp .eq o) aux pc (.int r :: .int r :: q) = some (aux, q) := by
  have e : decide (r = r) = true := decide_eq_true rfl
  show some (bif decide (r = r) then aux else pc + 3, q) = _
  rw [e]
  rfl
theorem kbl {o : Int} {aux pc : Nat} {r : Int64} {q : List Value} : pm_br (.ifCond .eq o) aux pc (.int (lg_cmp r r) :: q) = some (aux, q) := by
  have e : lg_cmp r r = 0 := by
    rcases zcmp (x := r) (y := r) with ⟨h, -⟩ | ⟨-, h⟩ | ⟨h, -⟩
    · exact absurd h (by omega)
    · exact Int32.toInt_inj.mp (h.trans (by decide))
    · exact absurd h (by omega)
  have e2 : decide (lg_cmp r r = 0) = true := decide_eq_true e
  show some (bif decide (lg_cmp r r = 0) then aux else pc + 3, q) = _
  rw [e2]
  rfl
def kAg (i : Int32) (N : Nat) : Prop := ∀ z : Int, 0 ≤ z → z ≤ 4 → pm_inb (i + Int32.ofInt z) N = true
section KCS
variable {xs : Nat → Int32} {N n : Nat} {i : Int32} {a b d : Option Value} {ph : pm_H} {c s : Nat}
theorem kend : pm_Se (kK2 xs N) false (pm_Rd kK false 600) 0 (1476, kL2 i a b d, [], ph, c, s) (23, kL2 (i + Int32.ofInt 5) a b d, [], ph, c, s) := by
  refine .step (ks3 (n := 3) (L' := kL2 (i + Int32.ofInt 5) a b d) (st' := []) (kcL (e := (3, .iinc 4 5, 0)) rfl) rfl) ?_
  exact .step (ks4 (pc' := 23) (st' := []) (kcL (e := (4, .goto (-1456), 23)) rfl) rfl) .rf
theorem kca_0 (H : xRs 122 193 [.int (xs (i + Int32.ofInt 1).toNatClampNeg)] (fun a b => kI a ∧ kI b)) (hn : n ≤ 512) (hI : xRI n ph) (hA : kAg i N) : ∃ ph2, xRI (n + 1) ph2 ∧ pm_Se (kK2 xs N) false (pm_Rd kK false 600) 0 (240, kL2 i a b d, [], ph, c, s) (23, kL2 (i + Int32.ofInt 5) a b d, [], ph2, c, s) := by
  obtain ⟨v1, v2, ph1, ph2, ⟨⟨f1, e1⟩, f2, e2⟩, r1, r2, ⟨⟨x, rfl⟩, y, rfl⟩, hI2⟩ := H n hn ph hI
  refine ⟨ph2, hI2, ?_⟩
  refine .step (ks2 (n := 1) (v := .ref 0) (kcL (e := (2, .aload_n kF1, 0)) rfl) rfl) ?_
  refine karg2 _ (hA 1 (by decide) (by decide)) rfl rfl rfl rfl rfl ?_
  refine .call (j := 122) (as := [.ref 0, .int (xs (i + Int32.ofInt 1).toNatClampNeg)]) (ks6 (r0 := []) (kcL (e := (6, .invokevirtual 26, 0)) rfl) (xinvV (j := 122) (n := 1) (ci := 12) rfl rfl e1 rfl rfl)) r1 ?_
  refine .step (ks0 (st' := []) (kcL (e := (0, .pop, 0)) rfl) rfl) ?_
  refine .step (ks2 (n := 1) (v := .ref 170) (kcL (e := (2, .aload_n kF2, 0)) rfl) rfl) ?_
  refine karg2 _ (hA 1 (by decide) (by decide)) rfl rfl rfl rfl rfl ?_
  refine .call (j := 193) (as := [.ref 170, .int (xs (i + Int32.ofInt 1).toNatClampNeg)]) (ks6 (r0 := []) (kcL (e := (6, .invokevirtual 30, 0)) rfl) (xinvV (j := 193) (n := 1) (ci := 13) rfl rfl e2 rfl rfl)) r2 ?_
  refine .step (ks0 (st' := []) (kcL (e := (0, .pop, 0)) rfl) rfl) ?_
  exact .step (ks4 (pc' := 1476) (st' := []) (kcL (e := (4, .goto 1214, 1476)) rfl) rfl) kend
theorem kca_1 (H : xRs 123 194 [.int (xs (i + Int32.ofInt 1).toNatClampNeg)] (fun a b => kI a ∧ kI b)) (hn : n ≤ 512) (hI : xRI n ph) (hA : kAg i N) : ∃ ph2, xRI (n + 1) ph2 ∧ pm_Se (kK2 xs N) false (pm_Rd kK false 600) 0 (265, kL2 i a b d, [], ph, c, s) (23, kL2 (i + Int32.ofInt 5) a b d, [], ph2, c, s) := by
  obtain ⟨v1, v2, ph1, ph2, ⟨⟨f1, e1⟩, f2, e2⟩, r1, r2, ⟨⟨x, rfl⟩, y, rfl⟩, hI2⟩ := H n hn ph hI
  refine ⟨ph2, hI2, ?_⟩
  refine .step (ks2 (n := 1) (v := .ref 0) (kcL (e := (2, .aload_n kF1, 0)) rfl) rfl) ?_
  refine karg2 _ (hA 1 (by decide) (by decide)) rfl rfl rfl rfl rfl ?_
  refine .call (j := 123) (as := [.ref 0, .int (xs (i + Int32.ofInt 1).toNatClampNeg)]) (ks6 (r0 := []) (kcL (e := (6, .invokevirtual 31, 0)) rfl) (xinvV (j := 123) (n := 1) (ci := 12) rfl rfl e1 rfl rfl)) r1 ?_
  refine .step (ks0 (st' := []) (kcL (e := (0, .pop, 0)) rfl) rfl) ?_
  refine .step (ks2 (n := 1) (v := .ref 170) (kcL (e := (2, .aload_n kF2, 0)) rfl) rfl) ?_
  refine karg2 _ (hA 1 (by decide) (by decide)) rfl rfl rfl rfl rfl ?_
  refine .call (j := 194) (as := [.ref 170, .int (xs (i + Int32.ofInt 1).toNatClampNeg)]) (ks6 (r0 := []) (kcL (e := (6, .invokevirtual 35, 0)) rfl) (xinvV (j := 194) (n := 1) (ci := 13) rfl rfl e2 rfl rfl)) r2 ?_
  refine .step (ks0 (st' := []) (kcL (e := (0, .pop, 0)) rfl) rfl) ?_
  exact .step (ks4 (pc' := 1476) (st' := []) (kcL (e := (4, .goto 1189, 1476)) rfl) rfl) kend
theorem kca_2 (H : xRs 124 202 [] (fun a b => kI a ∧ kI b)) (hn : n ≤ 512) (hI : xRI n ph) (hA : kAg i N) : ∃ ph2, xRI (n + 1) ph2 ∧ pm_Se (kK2 xs N) false (pm_Rd kK false 600) 0 (290, kL2 i a b d, [], ph, c, s) (23, kL2 (i + Int32.ofInt 5) a b d, [], ph2, c, s) := by
  obtain ⟨v1, v2, ph1, ph2, ⟨⟨f1, e1⟩, f2, e2⟩, r1, r2, ⟨⟨x, rfl⟩, y, rfl⟩, hI2⟩ := H n hn ph hI
  refine ⟨ph2, hI2, ?_⟩
  refine .step (ks2 (n := 1) (v := .ref 0) (kcL (e := (2, .aload_n kF1, 0)) rfl) rfl) ?_
  refine .call (j := 124) (as := [.ref 0]) (ks6 (r0 := []) (kcL (e := (6, .invokevirtual 36, 0)) rfl) (xinvV (j := 124) (n := 0) (ci := 12) rfl rfl e1 rfl rfl)) r1 ?_
  refine .step (ks0 (st' := []) (kcL (e := (0, .pop, 0)) rfl) rfl) ?_
  refine .step (ks2 (n := 1) (v := .ref 170) (kcL (e := (2, .aload_n kF2, 0)) rfl) rfl) ?_
  refine .call (j := 202) (as := [.ref 170]) (ks6 (r0 := []) (kcL (e := (6, .invokevirtual 40, 0)) rfl) (xinvV (j := 202) (n := 0) (ci := 13) rfl rfl e2 rfl rfl)) r2 ?_
  refine .step (ks0 (st' := []) (kcL (e := (0, .pop, 0)) rfl) rfl) ?_
  exact .step (ks4 (pc' := 1476) (st' := []) (kcL (e := (4, .goto 1176, 1476)) rfl) rfl) kend
theorem kca_3 (H : xRs 125 208 [] (fun a b => kI a ∧ kI b)) (hn : n ≤ 512) (hI : xRI n ph) (hA : kAg i N) : ∃ ph2, xRI (n + 1) ph2 ∧ pm_Se (kK2 xs N) false (pm_Rd kK false 600) 0 (303, kL2 i a b d, [], ph, c, s) (23, kL2 (i + Int32.ofInt 5) a b d, [], ph2, c, s) := by
  obtain ⟨v1, v2, ph1, ph2, ⟨⟨f1, e1⟩, f2, e2⟩, r1, r2, ⟨⟨x, rfl⟩, y, rfl⟩, hI2⟩ := H n hn ph hI
  refine ⟨ph2, hI2, ?_⟩
  refine .step (ks2 (n := 1) (v := .ref 0) (kcL (e := (2, .aload_n kF1, 0)) rfl) rfl) ?_
  refine .call (j := 125) (as := [.ref 0]) (ks6 (r0 := []) (kcL (e := (6, .invokevirtual 41, 0)) rfl) (xinvV (j := 125) (n := 0) (ci := 12) rfl rfl e1 rfl rfl)) r1 ?_
  refine .step (ks0 (st' := []) (kcL (e := (0, .pop, 0)) rfl) rfl) ?_
  refine .step (ks2 (n := 1) (v := .ref 170) (kcL (e := (2, .aload_n kF2, 0)) rfl) rfl) ?_
  refine .call (j := 208) (as := [.ref 170]) (ks6 (r0 := []) (kcL (e := (6, .invokevirtual 44, 0)) rfl) (xinvV (j := 208) (n := 0) (ci := 13) rfl rfl e2 rfl rfl)) r2 ?_
  refine .step (ks0 (st' := []) (kcL (e := (0, .pop, 0)) rfl) rfl) ?_
  exact .step (ks4 (pc' := 1476) (st' := []) (kcL (e := (4, .goto 1163, 1476)) rfl) rfl) kend
theorem kca_4 (H : xRs 126 209 [] (fun a b => kI a ∧ kI b)) (hn : n ≤ 512) (hI : xRI n ph) (hA : kAg i N) : ∃ ph2, xRI (n + 1) ph2 ∧ pm_Se (kK2 xs N) false (pm_Rd kK false 600) 0 (316, kL2 i a b d, [], ph, c, s) (23, kL2 (i + Int32.ofInt 5) a b d, [], ph2, c, s) := by
  obtain ⟨v1, v2, ph1, ph2, ⟨⟨f1, e1⟩, f2, e2⟩, r1, r2, ⟨⟨x, rfl⟩, y, rfl⟩, hI2⟩ := H n hn ph hI
  refine ⟨ph2, hI2, ?_⟩
  refine .step (ks2 (n := 1) (v := .ref 0) (kcL (e := (2, .aload_n kF1, 0)) rfl) rfl) ?_
  refine .call (j := 126) (as := [.ref 0]) (ks6 (r0 := []) (kcL (e := (6, .invokevirtual 45, 0)) rfl) (xinvV (j := 126) (n := 0) (ci := 12) rfl rfl e1 rfl rfl)) r1 ?_
  refine .step (ks0 (st' := []) (kcL (e := (0, .pop, 0)) rfl) rfl) ?_
  refine .step (ks2 (n := 1) (v := .ref 170) (kcL (e := (2, .aload_n kF2, 0)) rfl) rfl) ?_
  refine .call (j := 209) (as := [.ref 170]) (ks6 (r0 := []) (kcL (e := (6, .invokevirtual 48, 0)) rfl) (xinvV (j := 209) (n := 0) (ci := 13) rfl rfl e2 rfl rfl)) r2 ?_
  refine .step (ks0 (st' := []) (kcL (e := (0, .pop, 0)) rfl) rfl) ?_
  exact .step (ks4 (pc' := 1476) (st' := []) (kcL (e := (4, .goto 1150, 1476)) rfl) rfl) kend
theorem kca_5 (H : xRs 127 210 [] (fun a b => kI a ∧ kI b)) (hn : n ≤ 512) (hI : xRI n ph) (hA : kAg i N) : ∃ ph2, xRI (n + 1) ph2 ∧ pm_Se (kK2 xs N) false (pm_Rd kK false 600) 0 (329, kL2 i a b d, [], ph, c, s) (23, kL2 (i + Int32.ofInt 5) a b d, [], ph2, c, s) := by
  obtain ⟨v1, v2, ph1, ph2, ⟨⟨f1, e1⟩, f2, e2⟩, r1, r2, ⟨⟨x, rfl⟩, y, rfl⟩, hI2⟩ := H n hn ph hI
  refine ⟨ph2, hI2, ?_⟩
  refine .step (ks2 (n := 1) (v := .ref 0) (kcL (e := (2, .aload_n kF1, 0)) rfl) rfl) ?_
  refine .call (j := 127) (as := [.ref 0]) (ks6 (r0 := []) (kcL (e := (6, .invokevirtual 49, 0)) rfl) (xinvV (j := 127) (n := 0) (ci := 12) rfl rfl e1 rfl rfl)) r1 ?_
  refine .step (ks0 (st' := []) (kcL (e := (0, .pop, 0)) rfl) rfl) ?_
  refine .step (ks2 (n := 1) (v := .ref 170) (kcL (e := (2, .aload_n kF2, 0)) rfl) rfl) ?_
  refine .call (j := 210) (as := [.ref 170]) (ks6 (r0 := []) (kcL (e := (6, .invokevirtual 52, 0)) rfl) (xinvV (j := 210) (n := 0) (ci := 13) rfl rfl e2 rfl rfl)) r2 ?_
  refine .step (ks0 (st' := []) (kcL (e := (0, .pop, 0)) rfl) rfl) ?_
  exact .step (ks4 (pc' := 1476) (st' := []) (kcL (e := (4, .goto 1137, 1476)) rfl) rfl) kend
theorem kca_6 (H : xRs 128 217 [] (fun a b => kI a ∧ kI b)) (hn : n ≤ 512) (hI : xRI n ph) (hA : kAg i N) : ∃ ph2, xRI (n + 1) ph2 ∧ pm_Se (kK2 xs N) false (pm_Rd kK false 600) 0 (342, kL2 i a b d, [], ph, c, s) (23, kL2 (i + Int32.ofInt 5) a b d, [], ph2, c, s) := by
  obtain ⟨v1, v2, ph1, ph2, ⟨⟨f1, e1⟩, f2, e2⟩, r1, r2, ⟨⟨x, rfl⟩, y, rfl⟩, hI2⟩ := H n hn ph hI
  refine ⟨ph2, hI2, ?_⟩
  refine .step (ks2 (n := 1) (v := .ref 0) (kcL (e := (2, .aload_n kF1, 0)) rfl) rfl) ?_
  refine .call (j := 128) (as := [.ref 0]) (ks6 (r0 := []) (kcL (e := (6, .invokevirtual 53, 0)) rfl) (xinvV (j := 128) (n := 0) (ci := 12) rfl rfl e1 rfl rfl)) r1 ?_
  refine .step (ks0 (st' := []) (kcL (e := (0, .pop, 0)) rfl) rfl) ?_
  refine .step (ks2 (n := 1) (v := .ref 170) (kcL (e := (2, .aload_n kF2, 0)) rfl) rfl) ?_
  refine .call (j := 217) (as := [.ref 170]) (ks6 (r0 := []) (kcL (e := (6, .invokevirtual 56, 0)) rfl) (xinvV (j := 217) (n := 0) (ci := 13) rfl rfl e2 rfl rfl)) r2 ?_
  refine .step (ks0 (st' := []) (kcL (e := (0, .pop, 0)) rfl) rfl) ?_
  exact .step (ks4 (pc' := 1476) (st' := []) (kcL (e := (4, .goto 1124, 1476)) rfl) rfl) kend
theorem kca_9 (H : xRs 131 237 [.int (xs (i + Int32.ofInt 1).toNatClampNeg), .int (xs (i + Int32.ofInt 2).toNatClampNeg), .int (xs (i + Int32.ofInt 3).toNatClampNeg), .int (xs (i + Int32.ofInt 4).toNatClampNeg)] (fun a b => kI a ∧ kI b)) (hn : n ≤ 512) (hI : xRI n ph) (hA : kAg i N) : ∃ ph2, xRI (n + 1) ph2 ∧ pm_Se (kK2 xs N) false (pm_Rd kK false 600) 0 (463, kL2 i a b d, [], ph, c, s) (23, kL2 (i + Int32.ofInt 5) a b d, [], ph2, c, s) := by
  obtain ⟨v1, v2, ph1, ph2, ⟨⟨f1, e1⟩, f2, e2⟩, r1, r2, ⟨⟨x, rfl⟩, y, rfl⟩, hI2⟩ := H n hn ph hI
  refine ⟨ph2, hI2, ?_⟩
  refine .step (ks2 (n := 1) (v := .ref 0) (kcL (e := (2, .aload_n kF1, 0)) rfl) rfl) ?_
  refine karg2 _ (hA 1 (by decide) (by decide)) rfl rfl rfl rfl rfl ?_
  refine karg2 _ (hA 2 (by decide) (by decide)) rfl rfl rfl rfl rfl ?_
  refine karg2 _ (hA 3 (by decide) (by decide)) rfl rfl rfl rfl rfl ?_
  refine karg2 _ (hA 4 (by decide) (by decide)) rfl rfl rfl rfl rfl ?_
  refine .call (j := 131) (as := [.ref 0, .int (xs (i + Int32.ofInt 1).toNatClampNeg), .int (xs (i + Int32.ofInt 2).toNatClampNeg), .int (xs (i + Int32.ofInt 3).toNatClampNeg), .int (xs (i + Int32.ofInt 4).toNatClampNeg)]) (ks6 (r0 := []) (kcL (e := (6, .invokevirtual 69, 0)) rfl) (xinvV (j := 131) (n := 4) (ci := 12) rfl rfl e1 rfl rfl)) r1 ?_
  refine .step (ks0 (st' := []) (kcL (e := (0, .pop, 0)) rfl) rfl) ?_
  refine .step (ks2 (n := 1) (v := .ref 170) (kcL (e := (2, .aload_n kF2, 0)) rfl) rfl) ?_
  refine karg2 _ (hA 1 (by decide) (by decide)) rfl rfl rfl rfl rfl ?_
  refine karg2 _ (hA 2 (by decide) (by decide)) rfl rfl rfl rfl rfl ?_
  refine karg2 _ (hA 3 (by decide) (by decide)) rfl rfl rfl rfl rfl ?_
  refine karg2 _ (hA 4 (by decide) (by decide)) rfl rfl rfl rfl rfl ?_
  refine .call (j := 237) (as := [.ref 170, .int (xs (i + Int32.ofInt 1).toNatClampNeg), .int (xs (i + Int32.ofInt 2).toNatClampNeg), .int (xs (i + Int32.ofInt 3).toNatClampNeg), .int (xs (i + Int32.ofInt 4).toNatClampNeg)]) (ks6 (r0 := []) (kcL (e := (6, .invokevirtual 73, 0)) rfl) (xinvV (j := 237) (n := 4) (ci := 13) rfl rfl e2 rfl rfl)) r2 ?_
  refine .step (ks0 (st' := []) (kcL (e := (0, .pop, 0)) rfl) rfl) ?_
  exact .step (ks4 (pc' := 1476) (st' := []) (kcL (e := (4, .goto 955, 1476)) rfl) rfl) kend
theorem kca_10 (H : xRs 133 248 [.int (xs (i + Int32.ofInt 1).toNatClampNeg)] (fun a b => kI a ∧ kI b)) (hn : n ≤ 512) (hI : xRI n ph) (hA : kAg i N) : ∃ ph2, xRI (n + 1) ph2 ∧ pm_Se (kK2 xs N) false (pm_Rd kK false 600) 0 (524, kL2 i a b d, [], ph, c, s) (23, kL2 (i + Int32.ofInt 5) a b d, [], ph2, c, s) := by
  obtain ⟨v1, v2, ph1, ph2, ⟨⟨f1, e1⟩, f2, e2⟩, r1, r2, ⟨⟨x, rfl⟩, y, rfl⟩, hI2⟩ := H n hn ph hI
  refine ⟨ph2, hI2, ?_⟩
  refine .step (ks2 (n := 1) (v := .ref 0) (kcL (e := (2, .aload_n kF1, 0)) rfl) rfl) ?_
  refine karg2 _ (hA 1 (by decide) (by decide)) rfl rfl rfl rfl rfl ?_
  refine .call (j := 133) (as := [.ref 0, .int (xs (i + Int32.ofInt 1).toNatClampNeg)]) (ks6 (r0 := []) (kcL (e := (6, .invokevirtual 74, 0)) rfl) (xinvV (j := 133) (n := 1) (ci := 12) rfl rfl e1 rfl rfl)) r1 ?_
  refine .step (ks0 (st' := []) (kcL (e := (0, .pop, 0)) rfl) rfl) ?_
  refine .step (ks2 (n := 1) (v := .ref 170) (kcL (e := (2, .aload_n kF2, 0)) rfl) rfl) ?_
  refine karg2 _ (hA 1 (by decide) (by decide)) rfl rfl rfl rfl rfl ?_
  refine .call (j := 248) (as := [.ref 170, .int (xs (i + Int32.ofInt 1).toNatClampNeg)]) (ks6 (r0 := []) (kcL (e := (6, .invokevirtual 77, 0)) rfl) (xinvV (j := 248) (n := 1) (ci := 13) rfl rfl e2 rfl rfl)) r2 ?_
  refine .step (ks0 (st' := []) (kcL (e := (0, .pop, 0)) rfl) rfl) ?_
  exact .step (ks4 (pc' := 1476) (st' := []) (kcL (e := (4, .goto 930, 1476)) rfl) rfl) kend
theorem kca_11 (H : xRs 134 249 [.int (xs (i + Int32.ofInt 1).toNatClampNeg), .int (xs (i + Int32.ofInt 2).toNatClampNeg)] (fun a b => kI a ∧ kI b)) (hn : n ≤ 512) (hI : xRI n ph) (hA : kAg i N) : ∃ ph2, xRI (n + 1) ph2 ∧ pm_Se (kK2 xs N) false (pm_Rd kK false 600) 0 (549, kL2 i a b d, [], ph, c, s) (23, kL2 (i + Int32.ofInt 5) a b d, [], ph2, c, s) := by
  obtain ⟨v1, v2, ph1, ph2, ⟨⟨f1, e1⟩, f2, e2⟩, r1, r2, ⟨⟨x, rfl⟩, y, rfl⟩, hI2⟩ := H n hn ph hI
  refine ⟨ph2, hI2, ?_⟩
  refine .step (ks2 (n := 1) (v := .ref 0) (kcL (e := (2, .aload_n kF1, 0)) rfl) rfl) ?_
  refine karg2 _ (hA 1 (by decide) (by decide)) rfl rfl rfl rfl rfl ?_
  refine karg2 _ (hA 2 (by decide) (by decide)) rfl rfl rfl rfl rfl ?_
  refine .call (j := 134) (as := [.ref 0, .int (xs (i + Int32.ofInt 1).toNatClampNeg), .int (xs (i + Int32.ofInt 2).toNatClampNeg)]) (ks6 (r0 := []) (kcL (e := (6, .invokevirtual 78, 0)) rfl) (xinvV (j := 134) (n := 2) (ci := 12) rfl rfl e1 rfl rfl)) r1 ?_
  refine .step (ks0 (st' := []) (kcL (e := (0, .pop, 0)) rfl) rfl) ?_
  refine .step (ks2 (n := 1) (v := .ref 170) (kcL (e := (2, .aload_n kF2, 0)) rfl) rfl) ?_
  refine karg2 _ (hA 1 (by decide) (by decide)) rfl rfl rfl rfl rfl ?_
  refine karg2 _ (hA 2 (by decide) (by decide)) rfl rfl rfl rfl rfl ?_
  refine .call (j := 249) (as := [.ref 170, .int (xs (i + Int32.ofInt 1).toNatClampNeg), .int (xs (i + Int32.ofInt 2).toNatClampNeg)]) (ks6 (r0 := []) (kcL (e := (6, .invokevirtual 81, 0)) rfl) (xinvV (j := 249) (n := 2) (ci := 13) rfl rfl e2 rfl rfl)) r2 ?_
  refine .step (ks0 (st' := []) (kcL (e := (0, .pop, 0)) rfl) rfl) ?_
  exact .step (ks4 (pc' := 1476) (st' := []) (kcL (e := (4, .goto 893, 1476)) rfl) rfl) kend
theorem kca_12 (H : xRs 135 250 [.int (xs (i + Int32.ofInt 1).toNatClampNeg), .int (xs (i + Int32.ofInt 2).toNatClampNeg)] (fun a b => kI a ∧ kI b)) (hn : n ≤ 512) (hI : xRI n ph) (hA : kAg i N) : ∃ ph2, xRI (n + 1) ph2 ∧ pm_Se (kK2 xs N) false (pm_Rd kK false 600) 0 (586, kL2 i a b d, [], ph, c, s) (23, kL2 (i + Int32.ofInt 5) a b d, [], ph2, c, s) := by
  obtain ⟨v1, v2, ph1, ph2, ⟨⟨f1, e1⟩, f2, e2⟩, r1, r2, ⟨⟨x, rfl⟩, y, rfl⟩, hI2⟩ := H n hn ph hI
  refine ⟨ph2, hI2, ?_⟩
  refine .step (ks2 (n := 1) (v := .ref 0) (kcL (e := (2, .aload_n kF1, 0)) rfl) rfl) ?_
  refine karg2 _ (hA 1 (by decide) (by decide)) rfl rfl rfl rfl rfl ?_
  refine karg2 _ (hA 2 (by decide) (by decide)) rfl rfl rfl rfl rfl ?_
  refine .call (j := 135) (as := [.ref 0, .int (xs (i + Int32.ofInt 1).toNatClampNeg), .int (xs (i + Int32.ofInt 2).toNatClampNeg)]) (ks6 (r0 := []) (kcL (e := (6, .invokevirtual 82, 0)) rfl) (xinvV (j := 135) (n := 2) (ci := 12) rfl rfl e1 rfl rfl)) r1 ?_
  refine .step (ks0 (st' := []) (kcL (e := (0, .pop, 0)) rfl) rfl) ?_
  refine .step (ks2 (n := 1) (v := .ref 170) (kcL (e := (2, .aload_n kF2, 0)) rfl) rfl) ?_
  refine karg2 _ (hA 1 (by decide) (by decide)) rfl rfl rfl rfl rfl ?_
  refine karg2 _ (hA 2 (by decide) (by decide)) rfl rfl rfl rfl rfl ?_
  refine .call (j := 250) (as := [.ref 170, .int (xs (i + Int32.ofInt 1).toNatClampNeg), .int (xs (i + Int32.ofInt 2).toNatClampNeg)]) (ks6 (r0 := []) (kcL (e := (6, .invokevirtual 85, 0)) rfl) (xinvV (j := 250) (n := 2) (ci := 13) rfl rfl e2 rfl rfl)) r2 ?_
  refine .step (ks0 (st' := []) (kcL (e := (0, .pop, 0)) rfl) rfl) ?_
  exact .step (ks4 (pc' := 1476) (st' := []) (kcL (e := (4, .goto 856, 1476)) rfl) rfl) kend
theorem kca_13 (H : xRs 136 251 [.int (xs (i + Int32.ofInt 1).toNatClampNeg), .int (xs (i + Int32.ofInt 2).toNatClampNeg)] (fun a b => kI a ∧ kI b)) (hn : n ≤ 512) (hI : xRI n ph) (hA : kAg i N) : ∃ ph2, xRI (n + 1) ph2 ∧ pm_Se (kK2 xs N) false (pm_Rd kK false 600) 0 (623, kL2 i a b d, [], ph, c, s) (23, kL2 (i + Int32.ofInt 5) a b d, [], ph2, c, s) := by
  obtain ⟨v1, v2, ph1, ph2, ⟨⟨f1, e1⟩, f2, e2⟩, r1, r2, ⟨⟨x, rfl⟩, y, rfl⟩, hI2⟩ := H n hn ph hI
  refine ⟨ph2, hI2, ?_⟩
  refine .step (ks2 (n := 1) (v := .ref 0) (kcL (e := (2, .aload_n kF1, 0)) rfl) rfl) ?_
  refine karg2 _ (hA 1 (by decide) (by decide)) rfl rfl rfl rfl rfl ?_
  refine karg2 _ (hA 2 (by decide) (by decide)) rfl rfl rfl rfl rfl ?_
  refine .call (j := 136) (as := [.ref 0, .int (xs (i + Int32.ofInt 1).toNatClampNeg), .int (xs (i + Int32.ofInt 2).toNatClampNeg)]) (ks6 (r0 := []) (kcL (e := (6, .invokevirtual 86, 0)) rfl) (xinvV (j := 136) (n := 2) (ci := 12) rfl rfl e1 rfl rfl)) r1 ?_
  refine .step (ks0 (st' := []) (kcL (e := (0, .pop, 0)) rfl) rfl) ?_
  refine .step (ks2 (n := 1) (v := .ref 170) (kcL (e := (2, .aload_n kF2, 0)) rfl) rfl) ?_
  refine karg2 _ (hA 1 (by decide) (by decide)) rfl rfl rfl rfl rfl ?_
  refine karg2 _ (hA 2 (by decide) (by decide)) rfl rfl rfl rfl rfl ?_
  refine .call (j := 251) (as := [.ref 170, .int (xs (i + Int32.ofInt 1).toNatClampNeg), .int (xs (i + Int32.ofInt 2).toNatClampNeg)]) (ks6 (r0 := []) (kcL (e := (6, .invokevirtual 89, 0)) rfl) (xinvV (j := 251) (n := 2) (ci := 13) rfl rfl e2 rfl rfl)) r2 ?_
  refine .step (ks0 (st' := []) (kcL (e := (0, .pop, 0)) rfl) rfl) ?_
  exact .step (ks4 (pc' := 1476) (st' := []) (kcL (e := (4, .goto 819, 1476)) rfl) rfl) kend
theorem kca_14 (H : xRs 137 252 [.int (xs (i + Int32.ofInt 1).toNatClampNeg), .int (xs (i + Int32.ofInt 2).toNatClampNeg)] (fun a b => kI a ∧ kI b)) (hn : n ≤ 512) (hI : xRI n ph) (hA : kAg i N) : ∃ ph2, xRI (n + 1) ph2 ∧ pm_Se (kK2 xs N) false (pm_Rd kK false 600) 0 (660, kL2 i a b d, [], ph, c, s) (23, kL2 (i + Int32.ofInt 5) a b d, [], ph2, c, s) := by
  obtain ⟨v1, v2, ph1, ph2, ⟨⟨f1, e1⟩, f2, e2⟩, r1, r2, ⟨⟨x, rfl⟩, y, rfl⟩, hI2⟩ := H n hn ph hI
  refine ⟨ph2, hI2, ?_⟩
  refine .step (ks2 (n := 1) (v := .ref 0) (kcL (e := (2, .aload_n kF1, 0)) rfl) rfl) ?_
  refine karg2 _ (hA 1 (by decide) (by decide)) rfl rfl rfl rfl rfl ?_
  refine karg2 _ (hA 2 (by decide) (by decide)) rfl rfl rfl rfl rfl ?_
  refine .call (j := 137) (as := [.ref 0, .int (xs (i + Int32.ofInt 1).toNatClampNeg), .int (xs (i + Int32.ofInt 2).toNatClampNeg)]) (ks6 (r0 := []) (kcL (e := (6, .invokevirtual 90, 0)) rfl) (xinvV (j := 137) (n := 2) (ci := 12) rfl rfl e1 rfl rfl)) r1 ?_
  refine .step (ks0 (st' := []) (kcL (e := (0, .pop, 0)) rfl) rfl) ?_
  refine .step (ks2 (n := 1) (v := .ref 170) (kcL (e := (2, .aload_n kF2, 0)) rfl) rfl) ?_
  refine karg2 _ (hA 1 (by decide) (by decide)) rfl rfl rfl rfl rfl ?_
  refine karg2 _ (hA 2 (by decide) (by decide)) rfl rfl rfl rfl rfl ?_
  refine .call (j := 252) (as := [.ref 170, .int (xs (i + Int32.ofInt 1).toNatClampNeg), .int (xs (i + Int32.ofInt 2).toNatClampNeg)]) (ks6 (r0 := []) (kcL (e := (6, .invokevirtual 93, 0)) rfl) (xinvV (j := 252) (n := 2) (ci := 13) rfl rfl e2 rfl rfl)) r2 ?_
  refine .step (ks0 (st' := []) (kcL (e := (0, .pop, 0)) rfl) rfl) ?_
  exact .step (ks4 (pc' := 1476) (st' := []) (kcL (e := (4, .goto 782, 1476)) rfl) rfl) kend
theorem kca_15 (H : xRs 138 255 [] (fun a b => kI a ∧ kI b)) (hn : n ≤ 512) (hI : xRI n ph) (hA : kAg i N) : ∃ ph2, xRI (n + 1) ph2 ∧ pm_Se (kK2 xs N) false (pm_Rd kK false 600) 0 (697, kL2 i a b d, [], ph, c, s) (23, kL2 (i + Int32.ofInt 5) a b d, [], ph2, c, s) := by
  obtain ⟨v1, v2, ph1, ph2, ⟨⟨f1, e1⟩, f2, e2⟩, r1, r2, ⟨⟨x, rfl⟩, y, rfl⟩, hI2⟩ := H n hn ph hI
  refine ⟨ph2, hI2, ?_⟩
  refine .step (ks2 (n := 1) (v := .ref 0) (kcL (e := (2, .aload_n kF1, 0)) rfl) rfl) ?_
  refine .call (j := 138) (as := [.ref 0]) (ks6 (r0 := []) (kcL (e := (6, .invokevirtual 94, 0)) rfl) (xinvV (j := 138) (n := 0) (ci := 12) rfl rfl e1 rfl rfl)) r1 ?_
  refine .step (ks0 (st' := []) (kcL (e := (0, .pop, 0)) rfl) rfl) ?_
  refine .step (ks2 (n := 1) (v := .ref 170) (kcL (e := (2, .aload_n kF2, 0)) rfl) rfl) ?_
  refine .call (j := 255) (as := [.ref 170]) (ks6 (r0 := []) (kcL (e := (6, .invokevirtual 97, 0)) rfl) (xinvV (j := 255) (n := 0) (ci := 13) rfl rfl e2 rfl rfl)) r2 ?_
  refine .step (ks0 (st' := []) (kcL (e := (0, .pop, 0)) rfl) rfl) ?_
  exact .step (ks4 (pc' := 1476) (st' := []) (kcL (e := (4, .goto 769, 1476)) rfl) rfl) kend
theorem kca_16 (H : xRs 139 241 [] (fun a b => kI a ∧ kI b)) (hn : n ≤ 512) (hI : xRI n ph) (hA : kAg i N) : ∃ ph2, xRI (n + 1) ph2 ∧ pm_Se (kK2 xs N) false (pm_Rd kK false 600) 0 (710, kL2 i a b d, [], ph, c, s) (23, kL2 (i + Int32.ofInt 5) a b d, [], ph2, c, s) := by
  obtain ⟨v1, v2, ph1, ph2, ⟨⟨f1, e1⟩, f2, e2⟩, r1, r2, ⟨⟨x, rfl⟩, y, rfl⟩, hI2⟩ := H n hn ph hI
  refine ⟨ph2, hI2, ?_⟩
  refine .step (ks2 (n := 1) (v := .ref 0) (kcL (e := (2, .aload_n kF1, 0)) rfl) rfl) ?_
  refine .call (j := 139) (as := [.ref 0]) (ks6 (r0 := []) (kcL (e := (6, .invokevirtual 98, 0)) rfl) (xinvV (j := 139) (n := 0) (ci := 12) rfl rfl e1 rfl rfl)) r1 ?_
  refine .step (ks0 (st' := []) (kcL (e := (0, .pop, 0)) rfl) rfl) ?_
  refine .step (ks2 (n := 1) (v := .ref 170) (kcL (e := (2, .aload_n kF2, 0)) rfl) rfl) ?_
  refine .call (j := 241) (as := [.ref 170]) (ks6 (r0 := []) (kcL (e := (6, .invokevirtual 101, 0)) rfl) (xinvV (j := 241) (n := 0) (ci := 13) rfl rfl e2 rfl rfl)) r2 ?_
  refine .step (ks0 (st' := []) (kcL (e := (0, .pop, 0)) rfl) rfl) ?_
  exact .step (ks4 (pc' := 1476) (st' := []) (kcL (e := (4, .goto 756, 1476)) rfl) rfl) kend
theorem kca_17 (H : xRs 147 257 [.int (xs (i + Int32.ofInt 1).toNatClampNeg)] (fun a b => kJ a ∧ kJ b)) (hn : n ≤ 512) (hI : xRI n ph) (hA : kAg i N) : ∃ ph2, xRI (n + 1) ph2 ∧ pm_Se (kK2 xs N) false (pm_Rd kK false 600) 0 (723, kL2 i a b d, [], ph, c, s) (23, kL2 (i + Int32.ofInt 5) a b d, [], ph2, c, s) := by
  obtain ⟨v1, v2, ph1, ph2, ⟨⟨f1, e1⟩, f2, e2⟩, r1, r2, ⟨⟨x, rfl⟩, y, rfl⟩, hI2⟩ := H n hn ph hI
  refine ⟨ph2, hI2, ?_⟩
  refine .step (ks2 (n := 1) (v := .ref 0) (kcL (e := (2, .aload_n kF1, 0)) rfl) rfl) ?_
  refine karg2 _ (hA 1 (by decide) (by decide)) rfl rfl rfl rfl rfl ?_
  refine .call (j := 147) (as := [.ref 0, .int (xs (i + Int32.ofInt 1).toNatClampNeg)]) (ks6 (r0 := []) (kcL (e := (6, .invokevirtual 102, 0)) rfl) (xinvV (j := 147) (n := 1) (ci := 12) rfl rfl e1 rfl rfl)) r1 ?_
  refine .step (ks0 (st' := []) (kcL (e := (0, .pop2, 0)) rfl) rfl) ?_
  refine .step (ks2 (n := 1) (v := .ref 170) (kcL (e := (2, .aload_n kF2, 0)) rfl) rfl) ?_
  refine karg2 _ (hA 1 (by decide) (by decide)) rfl rfl rfl rfl rfl ?_
  refine .call (j := 257) (as := [.ref 170, .int (xs (i + Int32.ofInt 1).toNatClampNeg)]) (ks6 (r0 := []) (kcL (e := (6, .invokevirtual 105, 0)) rfl) (xinvV (j := 257) (n := 1) (ci := 13) rfl rfl e2 rfl rfl)) r2 ?_
  refine .step (ks0 (st' := []) (kcL (e := (0, .pop2, 0)) rfl) rfl) ?_
  exact .step (ks4 (pc' := 1476) (st' := []) (kcL (e := (4, .goto 731, 1476)) rfl) rfl) kend
theorem kca_18 (H : xRs 148 258 [.int (xs (i + Int32.ofInt 1).toNatClampNeg)] (fun a b => kI a ∧ kI b)) (hn : n ≤ 512) (hI : xRI n ph) (hA : kAg i N) : ∃ ph2, xRI (n + 1) ph2 ∧ pm_Se (kK2 xs N) false (pm_Rd kK false 600) 0 (748, kL2 i a b d, [], ph, c, s) (23, kL2 (i + Int32.ofInt 5) a b d, [], ph2, c, s) := by
  obtain ⟨v1, v2, ph1, ph2, ⟨⟨f1, e1⟩, f2, e2⟩, r1, r2, ⟨⟨x, rfl⟩, y, rfl⟩, hI2⟩ := H n hn ph hI
  refine ⟨ph2, hI2, ?_⟩
  refine .step (ks2 (n := 1) (v := .ref 0) (kcL (e := (2, .aload_n kF1, 0)) rfl) rfl) ?_
  refine karg2 _ (hA 1 (by decide) (by decide)) rfl rfl rfl rfl rfl ?_
  refine .call (j := 148) (as := [.ref 0, .int (xs (i + Int32.ofInt 1).toNatClampNeg)]) (ks6 (r0 := []) (kcL (e := (6, .invokevirtual 106, 0)) rfl) (xinvV (j := 148) (n := 1) (ci := 12) rfl rfl e1 rfl rfl)) r1 ?_
  refine .step (ks0 (st' := []) (kcL (e := (0, .pop, 0)) rfl) rfl) ?_
  refine .step (ks2 (n := 1) (v := .ref 170) (kcL (e := (2, .aload_n kF2, 0)) rfl) rfl) ?_
  refine karg2 _ (hA 1 (by decide) (by decide)) rfl rfl rfl rfl rfl ?_
  refine .call (j := 258) (as := [.ref 170, .int (xs (i + Int32.ofInt 1).toNatClampNeg)]) (ks6 (r0 := []) (kcL (e := (6, .invokevirtual 109, 0)) rfl) (xinvV (j := 258) (n := 1) (ci := 13) rfl rfl e2 rfl rfl)) r2 ?_
  refine .step (ks0 (st' := []) (kcL (e := (0, .pop, 0)) rfl) rfl) ?_
  exact .step (ks4 (pc' := 1476) (st' := []) (kcL (e := (4, .goto 706, 1476)) rfl) rfl) kend
theorem kca_19 (H : xRs 149 260 [] (fun a b => kJ a ∧ kJ b)) (hn : n ≤ 512) (hI : xRI n ph) (hA : kAg i N) : ∃ ph2, xRI (n + 1) ph2 ∧ pm_Se (kK2 xs N) false (pm_Rd kK false 600) 0 (773, kL2 i a b d, [], ph, c, s) (23, kL2 (i + Int32.ofInt 5) a b d, [], ph2, c, s) := by
  obtain ⟨v1, v2, ph1, ph2, ⟨⟨f1, e1⟩, f2, e2⟩, r1, r2, ⟨⟨x, rfl⟩, y, rfl⟩, hI2⟩ := H n hn ph hI
  refine ⟨ph2, hI2, ?_⟩
  refine .step (ks2 (n := 1) (v := .ref 0) (kcL (e := (2, .aload_n kF1, 0)) rfl) rfl) ?_
  refine .call (j := 149) (as := [.ref 0]) (ks6 (r0 := []) (kcL (e := (6, .invokevirtual 110, 0)) rfl) (xinvV (j := 149) (n := 0) (ci := 12) rfl rfl e1 rfl rfl)) r1 ?_
  refine .step (ks0 (st' := []) (kcL (e := (0, .pop2, 0)) rfl) rfl) ?_
  refine .step (ks2 (n := 1) (v := .ref 170) (kcL (e := (2, .aload_n kF2, 0)) rfl) rfl) ?_
  refine .call (j := 260) (as := [.ref 170]) (ks6 (r0 := []) (kcL (e := (6, .invokevirtual 114, 0)) rfl) (xinvV (j := 260) (n := 0) (ci := 13) rfl rfl e2 rfl rfl)) r2 ?_
  refine .step (ks0 (st' := []) (kcL (e := (0, .pop2, 0)) rfl) rfl) ?_
  exact .step (ks4 (pc' := 1476) (st' := []) (kcL (e := (4, .goto 693, 1476)) rfl) rfl) kend
theorem kca_20 (H : xRs 150 261 [] (fun a b => kI a ∧ kI b)) (hn : n ≤ 512) (hI : xRI n ph) (hA : kAg i N) : ∃ ph2, xRI (n + 1) ph2 ∧ pm_Se (kK2 xs N) false (pm_Rd kK false 600) 0 (786, kL2 i a b d, [], ph, c, s) (23, kL2 (i + Int32.ofInt 5) a b d, [], ph2, c, s) := by
  obtain ⟨v1, v2, ph1, ph2, ⟨⟨f1, e1⟩, f2, e2⟩, r1, r2, ⟨⟨x, rfl⟩, y, rfl⟩, hI2⟩ := H n hn ph hI
  refine ⟨ph2, hI2, ?_⟩
  refine .step (ks2 (n := 1) (v := .ref 0) (kcL (e := (2, .aload_n kF1, 0)) rfl) rfl) ?_
  refine .call (j := 150) (as := [.ref 0]) (ks6 (r0 := []) (kcL (e := (6, .invokevirtual 115, 0)) rfl) (xinvV (j := 150) (n := 0) (ci := 12) rfl rfl e1 rfl rfl)) r1 ?_
  refine .step (ks0 (st' := []) (kcL (e := (0, .pop, 0)) rfl) rfl) ?_
  refine .step (ks2 (n := 1) (v := .ref 170) (kcL (e := (2, .aload_n kF2, 0)) rfl) rfl) ?_
  refine .call (j := 261) (as := [.ref 170]) (ks6 (r0 := []) (kcL (e := (6, .invokevirtual 118, 0)) rfl) (xinvV (j := 261) (n := 0) (ci := 13) rfl rfl e2 rfl rfl)) r2 ?_
  refine .step (ks0 (st' := []) (kcL (e := (0, .pop, 0)) rfl) rfl) ?_
  exact .step (ks4 (pc' := 1476) (st' := []) (kcL (e := (4, .goto 680, 1476)) rfl) rfl) kend
theorem kca_21 (H : xRs 151 262 [.int (xs (i + Int32.ofInt 1).toNatClampNeg)] (fun a b => kI a ∧ kI b)) (hn : n ≤ 512) (hI : xRI n ph) (hA : kAg i N) : ∃ ph2, xRI (n + 1) ph2 ∧ pm_Se (kK2 xs N) false (pm_Rd kK false 600) 0 (799, kL2 i a b d, [], ph, c, s) (23, kL2 (i + Int32.ofInt 5) a b d, [], ph2, c, s) := by
  obtain ⟨v1, v2, ph1, ph2, ⟨⟨f1, e1⟩, f2, e2⟩, r1, r2, ⟨⟨x, rfl⟩, y, rfl⟩, hI2⟩ := H n hn ph hI
  refine ⟨ph2, hI2, ?_⟩
  refine .step (ks2 (n := 1) (v := .ref 0) (kcL (e := (2, .aload_n kF1, 0)) rfl) rfl) ?_
  refine karg2 _ (hA 1 (by decide) (by decide)) rfl rfl rfl rfl rfl ?_
  refine .call (j := 151) (as := [.ref 0, .int (xs (i + Int32.ofInt 1).toNatClampNeg)]) (ks6 (r0 := []) (kcL (e := (6, .invokevirtual 119, 0)) rfl) (xinvV (j := 151) (n := 1) (ci := 12) rfl rfl e1 rfl rfl)) r1 ?_
  refine .step (ks0 (st' := []) (kcL (e := (0, .pop, 0)) rfl) rfl) ?_
  refine .step (ks2 (n := 1) (v := .ref 170) (kcL (e := (2, .aload_n kF2, 0)) rfl) rfl) ?_
  refine karg2 _ (hA 1 (by decide) (by decide)) rfl rfl rfl rfl rfl ?_
  refine .call (j := 262) (as := [.ref 170, .int (xs (i + Int32.ofInt 1).toNatClampNeg)]) (ks6 (r0 := []) (kcL (e := (6, .invokevirtual 122, 0)) rfl) (xinvV (j := 262) (n := 1) (ci := 13) rfl rfl e2 rfl rfl)) r2 ?_
  refine .step (ks0 (st' := []) (kcL (e := (0, .pop, 0)) rfl) rfl) ?_
  exact .step (ks4 (pc' := 1476) (st' := []) (kcL (e := (4, .goto 655, 1476)) rfl) rfl) kend
theorem kca_22 (H : xRs 152 263 [] (fun a b => kI a ∧ kI b)) (hn : n ≤ 512) (hI : xRI n ph) (hA : kAg i N) : ∃ ph2, xRI (n + 1) ph2 ∧ pm_Se (kK2 xs N) false (pm_Rd kK false 600) 0 (824, kL2 i a b d, [], ph, c, s) (23, kL2 (i + Int32.ofInt 5) a b d, [], ph2, c, s) := by
  obtain ⟨v1, v2, ph1, ph2, ⟨⟨f1, e1⟩, f2, e2⟩, r1, r2, ⟨⟨x, rfl⟩, y, rfl⟩, hI2⟩ := H n hn ph hI
  refine ⟨ph2, hI2, ?_⟩
  refine .step (ks2 (n := 1) (v := .ref 0) (kcL (e := (2, .aload_n kF1, 0)) rfl) rfl) ?_
  refine .call (j := 152) (as := [.ref 0]) (ks6 (r0 := []) (kcL (e := (6, .invokevirtual 123, 0)) rfl) (xinvV (j := 152) (n := 0) (ci := 12) rfl rfl e1 rfl rfl)) r1 ?_
  refine .step (ks0 (st' := []) (kcL (e := (0, .pop, 0)) rfl) rfl) ?_
  refine .step (ks2 (n := 1) (v := .ref 170) (kcL (e := (2, .aload_n kF2, 0)) rfl) rfl) ?_
  refine .call (j := 263) (as := [.ref 170]) (ks6 (r0 := []) (kcL (e := (6, .invokevirtual 126, 0)) rfl) (xinvV (j := 263) (n := 0) (ci := 13) rfl rfl e2 rfl rfl)) r2 ?_
  refine .step (ks0 (st' := []) (kcL (e := (0, .pop, 0)) rfl) rfl) ?_
  exact .step (ks4 (pc' := 1476) (st' := []) (kcL (e := (4, .goto 642, 1476)) rfl) rfl) kend
theorem kca_23 (H : xRs 153 265 [] (fun a b => kI a ∧ kI b)) (hn : n ≤ 512) (hI : xRI n ph) (hA : kAg i N) : ∃ ph2, xRI (n + 1) ph2 ∧ pm_Se (kK2 xs N) false (pm_Rd kK false 600) 0 (837, kL2 i a b d, [], ph, c, s) (23, kL2 (i + Int32.ofInt 5) a b d, [], ph2, c, s) := by
  obtain ⟨v1, v2, ph1, ph2, ⟨⟨f1, e1⟩, f2, e2⟩, r1, r2, ⟨⟨x, rfl⟩, y, rfl⟩, hI2⟩ := H n hn ph hI
  refine ⟨ph2, hI2, ?_⟩
  refine .step (ks2 (n := 1) (v := .ref 0) (kcL (e := (2, .aload_n kF1, 0)) rfl) rfl) ?_
  refine .call (j := 153) (as := [.ref 0]) (ks6 (r0 := []) (kcL (e := (6, .invokevirtual 127, 0)) rfl) (xinvV (j := 153) (n := 0) (ci := 12) rfl rfl e1 rfl rfl)) r1 ?_
  refine .step (ks0 (st' := []) (kcL (e := (0, .pop, 0)) rfl) rfl) ?_
  refine .step (ks2 (n := 1) (v := .ref 170) (kcL (e := (2, .aload_n kF2, 0)) rfl) rfl) ?_
  refine .call (j := 265) (as := [.ref 170]) (ks6 (r0 := []) (kcL (e := (6, .invokevirtual 130, 0)) rfl) (xinvV (j := 265) (n := 0) (ci := 13) rfl rfl e2 rfl rfl)) r2 ?_
  refine .step (ks0 (st' := []) (kcL (e := (0, .pop, 0)) rfl) rfl) ?_
  exact .step (ks4 (pc' := 1476) (st' := []) (kcL (e := (4, .goto 629, 1476)) rfl) rfl) kend
theorem kca_24 (H : xRs 154 266 [.int (xs (i + Int32.ofInt 1).toNatClampNeg), .int (xs (i + Int32.ofInt 2).toNatClampNeg)] (fun a b => kI a ∧ kI b)) (hn : n ≤ 512) (hI : xRI n ph) (hA : kAg i N) : ∃ ph2, xRI (n + 1) ph2 ∧ pm_Se (kK2 xs N) false (pm_Rd kK false 600) 0 (850, kL2 i a b d, [], ph, c, s) (23, kL2 (i + Int32.ofInt 5) a b d, [], ph2, c, s) := by
  obtain ⟨v1, v2, ph1, ph2, ⟨⟨f1, e1⟩, f2, e2⟩, r1, r2, ⟨⟨x, rfl⟩, y, rfl⟩, hI2⟩ := H n hn ph hI
  refine ⟨ph2, hI2, ?_⟩
  refine .step (ks2 (n := 1) (v := .ref 0) (kcL (e := (2, .aload_n kF1, 0)) rfl) rfl) ?_
  refine karg2 _ (hA 1 (by decide) (by decide)) rfl rfl rfl rfl rfl ?_
  refine karg2 _ (hA 2 (by decide) (by decide)) rfl rfl rfl rfl rfl ?_
  refine .call (j := 154) (as := [.ref 0, .int (xs (i + Int32.ofInt 1).toNatClampNeg), .int (xs (i + Int32.ofInt 2).toNatClampNeg)]) (ks6 (r0 := []) (kcL (e := (6, .invokevirtual 131, 0)) rfl) (xinvV (j := 154) (n := 2) (ci := 12) rfl rfl e1 rfl rfl)) r1 ?_
  refine .step (ks0 (st' := []) (kcL (e := (0, .pop, 0)) rfl) rfl) ?_
  refine .step (ks2 (n := 1) (v := .ref 170) (kcL (e := (2, .aload_n kF2, 0)) rfl) rfl) ?_
  refine karg2 _ (hA 1 (by decide) (by decide)) rfl rfl rfl rfl rfl ?_
  refine karg2 _ (hA 2 (by decide) (by decide)) rfl rfl rfl rfl rfl ?_
  refine .call (j := 266) (as := [.ref 170, .int (xs (i + Int32.ofInt 1).toNatClampNeg), .int (xs (i + Int32.ofInt 2).toNatClampNeg)]) (ks6 (r0 := []) (kcL (e := (6, .invokevirtual 134, 0)) rfl) (xinvV (j := 266) (n := 2) (ci := 13) rfl rfl e2 rfl rfl)) r2 ?_
  refine .step (ks0 (st' := []) (kcL (e := (0, .pop, 0)) rfl) rfl) ?_
  exact .step (ks4 (pc' := 1476) (st' := []) (kcL (e := (4, .goto 592, 1476)) rfl) rfl) kend
theorem kca_25 (H : xRs 155 268 [] (fun a b => kI a ∧ kI b)) (hn : n ≤ 512) (hI : xRI n ph) (hA : kAg i N) : ∃ ph2, xRI (n + 1) ph2 ∧ pm_Se (kK2 xs N) false (pm_Rd kK false 600) 0 (887, kL2 i a b d, [], ph, c, s) (23, kL2 (i + Int32.ofInt 5) a b d, [], ph2, c, s) := by
  obtain ⟨v1, v2, ph1, ph2, ⟨⟨f1, e1⟩, f2, e2⟩, r1, r2, ⟨⟨x, rfl⟩, y, rfl⟩, hI2⟩ := H n hn ph hI
  refine ⟨ph2, hI2, ?_⟩
  refine .step (ks2 (n := 1) (v := .ref 0) (kcL (e := (2, .aload_n kF1, 0)) rfl) rfl) ?_
  refine .call (j := 155) (as := [.ref 0]) (ks6 (r0 := []) (kcL (e := (6, .invokevirtual 135, 0)) rfl) (xinvV (j := 155) (n := 0) (ci := 12) rfl rfl e1 rfl rfl)) r1 ?_
  refine .step (ks0 (st' := []) (kcL (e := (0, .pop, 0)) rfl) rfl) ?_
  refine .step (ks2 (n := 1) (v := .ref 170) (kcL (e := (2, .aload_n kF2, 0)) rfl) rfl) ?_
  refine .call (j := 268) (as := [.ref 170]) (ks6 (r0 := []) (kcL (e := (6, .invokevirtual 138, 0)) rfl) (xinvV (j := 268) (n := 0) (ci := 13) rfl rfl e2 rfl rfl)) r2 ?_
  refine .step (ks0 (st' := []) (kcL (e := (0, .pop, 0)) rfl) rfl) ?_
  exact .step (ks4 (pc' := 1476) (st' := []) (kcL (e := (4, .goto 579, 1476)) rfl) rfl) kend
theorem kca_26 (H : xRs 156 269 [.int (xs (i + Int32.ofInt 1).toNatClampNeg)] (fun a b => kI a ∧ kI b)) (hn : n ≤ 512) (hI : xRI n ph) (hA : kAg i N) : ∃ ph2, xRI (n + 1) ph2 ∧ pm_Se (kK2 xs N) false (pm_Rd kK false 600) 0 (900, kL2 i a b d, [], ph, c, s) (23, kL2 (i + Int32.ofInt 5) a b d, [], ph2, c, s) := by
  obtain ⟨v1, v2, ph1, ph2, ⟨⟨f1, e1⟩, f2, e2⟩, r1, r2, ⟨⟨x, rfl⟩, y, rfl⟩, hI2⟩ := H n hn ph hI
  refine ⟨ph2, hI2, ?_⟩
  refine .step (ks2 (n := 1) (v := .ref 0) (kcL (e := (2, .aload_n kF1, 0)) rfl) rfl) ?_
  refine karg2 _ (hA 1 (by decide) (by decide)) rfl rfl rfl rfl rfl ?_
  refine .call (j := 156) (as := [.ref 0, .int (xs (i + Int32.ofInt 1).toNatClampNeg)]) (ks6 (r0 := []) (kcL (e := (6, .invokevirtual 139, 0)) rfl) (xinvV (j := 156) (n := 1) (ci := 12) rfl rfl e1 rfl rfl)) r1 ?_
  refine .step (ks0 (st' := []) (kcL (e := (0, .pop, 0)) rfl) rfl) ?_
  refine .step (ks2 (n := 1) (v := .ref 170) (kcL (e := (2, .aload_n kF2, 0)) rfl) rfl) ?_
  refine karg2 _ (hA 1 (by decide) (by decide)) rfl rfl rfl rfl rfl ?_
  refine .call (j := 269) (as := [.ref 170, .int (xs (i + Int32.ofInt 1).toNatClampNeg)]) (ks6 (r0 := []) (kcL (e := (6, .invokevirtual 142, 0)) rfl) (xinvV (j := 269) (n := 1) (ci := 13) rfl rfl e2 rfl rfl)) r2 ?_
  refine .step (ks0 (st' := []) (kcL (e := (0, .pop, 0)) rfl) rfl) ?_
  exact .step (ks4 (pc' := 1476) (st' := []) (kcL (e := (4, .goto 554, 1476)) rfl) rfl) kend
theorem kca_27 (H : xRs 157 270 [.int (xs (i + Int32.ofInt 1).toNatClampNeg)] (fun a b => kI a ∧ kI b)) (hn : n ≤ 512) (hI : xRI n ph) (hA : kAg i N) : ∃ ph2, xRI (n + 1) ph2 ∧ pm_Se (kK2 xs N) false (pm_Rd kK false 600) 0 (925, kL2 i a b d, [], ph, c, s) (23, kL2 (i + Int32.ofInt 5) a b d, [], ph2, c, s) := by
  obtain ⟨v1, v2, ph1, ph2, ⟨⟨f1, e1⟩, f2, e2⟩, r1, r2, ⟨⟨x, rfl⟩, y, rfl⟩, hI2⟩ := H n hn ph hI
  refine ⟨ph2, hI2, ?_⟩
  refine .step (ks2 (n := 1) (v := .ref 0) (kcL (e := (2, .aload_n kF1, 0)) rfl) rfl) ?_
  refine karg2 _ (hA 1 (by decide) (by decide)) rfl rfl rfl rfl rfl ?_
  refine .call (j := 157) (as := [.ref 0, .int (xs (i + Int32.ofInt 1).toNatClampNeg)]) (ks6 (r0 := []) (kcL (e := (6, .invokevirtual 143, 0)) rfl) (xinvV (j := 157) (n := 1) (ci := 12) rfl rfl e1 rfl rfl)) r1 ?_
  refine .step (ks0 (st' := []) (kcL (e := (0, .pop, 0)) rfl) rfl) ?_
  refine .step (ks2 (n := 1) (v := .ref 170) (kcL (e := (2, .aload_n kF2, 0)) rfl) rfl) ?_
  refine karg2 _ (hA 1 (by decide) (by decide)) rfl rfl rfl rfl rfl ?_
  refine .call (j := 270) (as := [.ref 170, .int (xs (i + Int32.ofInt 1).toNatClampNeg)]) (ks6 (r0 := []) (kcL (e := (6, .invokevirtual 146, 0)) rfl) (xinvV (j := 270) (n := 1) (ci := 13) rfl rfl e2 rfl rfl)) r2 ?_
  refine .step (ks0 (st' := []) (kcL (e := (0, .pop, 0)) rfl) rfl) ?_
  exact .step (ks4 (pc' := 1476) (st' := []) (kcL (e := (4, .goto 529, 1476)) rfl) rfl) kend
theorem kca_28 (H : xRs 158 272 [.int (xs (i + Int32.ofInt 1).toNatClampNeg), .int (xs (i + Int32.ofInt 2).toNatClampNeg)] (fun a b => kI a ∧ kI b)) (hn : n ≤ 512) (hI : xRI n ph) (hA : kAg i N) : ∃ ph2, xRI (n + 1) ph2 ∧ pm_Se (kK2 xs N) false (pm_Rd kK false 600) 0 (950, kL2 i a b d, [], ph, c, s) (23, kL2 (i + Int32.ofInt 5) a b d, [], ph2, c, s) := by
  obtain ⟨v1, v2, ph1, ph2, ⟨⟨f1, e1⟩, f2, e2⟩, r1, r2, ⟨⟨x, rfl⟩, y, rfl⟩, hI2⟩ := H n hn ph hI
  refine ⟨ph2, hI2, ?_⟩
  refine .step (ks2 (n := 1) (v := .ref 0) (kcL (e := (2, .aload_n kF1, 0)) rfl) rfl) ?_
  refine karg2 _ (hA 1 (by decide) (by decide)) rfl rfl rfl rfl rfl ?_
  refine karg2 _ (hA 2 (by decide) (by decide)) rfl rfl rfl rfl rfl ?_
  refine .call (j := 158) (as := [.ref 0, .int (xs (i + Int32.ofInt 1).toNatClampNeg), .int (xs (i + Int32.ofInt 2).toNatClampNeg)]) (ks6 (r0 := []) (kcL (e := (6, .invokevirtual 147, 0)) rfl) (xinvV (j := 158) (n := 2) (ci := 12) rfl rfl e1 rfl rfl)) r1 ?_
  refine .step (ks0 (st' := []) (kcL (e := (0, .pop, 0)) rfl) rfl) ?_
  refine .step (ks2 (n := 1) (v := .ref 170) (kcL (e := (2, .aload_n kF2, 0)) rfl) rfl) ?_
  refine karg2 _ (hA 1 (by decide) (by decide)) rfl rfl rfl rfl rfl ?_
  refine karg2 _ (hA 2 (by decide) (by decide)) rfl rfl rfl rfl rfl ?_
  refine .call (j := 272) (as := [.ref 170, .int (xs (i + Int32.ofInt 1).toNatClampNeg), .int (xs (i + Int32.ofInt 2).toNatClampNeg)]) (ks6 (r0 := []) (kcL (e := (6, .invokevirtual 150, 0)) rfl) (xinvV (j := 272) (n := 2) (ci := 13) rfl rfl e2 rfl rfl)) r2 ?_
  refine .step (ks0 (st' := []) (kcL (e := (0, .pop, 0)) rfl) rfl) ?_
  exact .step (ks4 (pc' := 1476) (st' := []) (kcL (e := (4, .goto 492, 1476)) rfl) rfl) kend
theorem kca_29 (H : xRs 159 276 [] (fun a b => kI a ∧ kI b)) (hn : n ≤ 512) (hI : xRI n ph) (hA : kAg i N) : ∃ ph2, xRI (n + 1) ph2 ∧ pm_Se (kK2 xs N) false (pm_Rd kK false 600) 0 (987, kL2 i a b d, [], ph, c, s) (23, kL2 (i + Int32.ofInt 5) a b d, [], ph2, c, s) := by
  obtain ⟨v1, v2, ph1, ph2, ⟨⟨f1, e1⟩, f2, e2⟩, r1, r2, ⟨⟨x, rfl⟩, y, rfl⟩, hI2⟩ := H n hn ph hI
  refine ⟨ph2, hI2, ?_⟩
  refine .step (ks2 (n := 1) (v := .ref 0) (kcL (e := (2, .aload_n kF1, 0)) rfl) rfl) ?_
  refine .call (j := 159) (as := [.ref 0]) (ks6 (r0 := []) (kcL (e := (6, .invokevirtual 151, 0)) rfl) (xinvV (j := 159) (n := 0) (ci := 12) rfl rfl e1 rfl rfl)) r1 ?_
  refine .step (ks0 (st' := []) (kcL (e := (0, .pop, 0)) rfl) rfl) ?_
  refine .step (ks2 (n := 1) (v := .ref 170) (kcL (e := (2, .aload_n kF2, 0)) rfl) rfl) ?_
  refine .call (j := 276) (as := [.ref 170]) (ks6 (r0 := []) (kcL (e := (6, .invokevirtual 154, 0)) rfl) (xinvV (j := 276) (n := 0) (ci := 13) rfl rfl e2 rfl rfl)) r2 ?_
  refine .step (ks0 (st' := []) (kcL (e := (0, .pop, 0)) rfl) rfl) ?_
  exact .step (ks4 (pc' := 1476) (st' := []) (kcL (e := (4, .goto 479, 1476)) rfl) rfl) kend
theorem kca_30 (H : xRs 160 277 [.int (xs (i + Int32.ofInt 1).toNatClampNeg)] (fun a b => kI a ∧ kI b)) (hn : n ≤ 512) (hI : xRI n ph) (hA : kAg i N) : ∃ ph2, xRI (n + 1) ph2 ∧ pm_Se (kK2 xs N) false (pm_Rd kK false 600) 0 (1000, kL2 i a b d, [], ph, c, s) (23, kL2 (i + Int32.ofInt 5) a b d, [], ph2, c, s) := by
  obtain ⟨v1, v2, ph1, ph2, ⟨⟨f1, e1⟩, f2, e2⟩, r1, r2, ⟨⟨x, rfl⟩, y, rfl⟩, hI2⟩ := H n hn ph hI
  refine ⟨ph2, hI2, ?_⟩
  refine .step (ks2 (n := 1) (v := .ref 0) (kcL (e := (2, .aload_n kF1, 0)) rfl) rfl) ?_
  refine karg2 _ (hA 1 (by decide) (by decide)) rfl rfl rfl rfl rfl ?_
  refine .call (j := 160) (as := [.ref 0, .int (xs (i + Int32.ofInt 1).toNatClampNeg)]) (ks6 (r0 := []) (kcL (e := (6, .invokevirtual 155, 0)) rfl) (xinvV (j := 160) (n := 1) (ci := 12) rfl rfl e1 rfl rfl)) r1 ?_
  refine .step (ks0 (st' := []) (kcL (e := (0, .pop, 0)) rfl) rfl) ?_
  refine .step (ks2 (n := 1) (v := .ref 170) (kcL (e := (2, .aload_n kF2, 0)) rfl) rfl) ?_
  refine karg2 _ (hA 1 (by decide) (by decide)) rfl rfl rfl rfl rfl ?_
  refine .call (j := 277) (as := [.ref 170, .int (xs (i + Int32.ofInt 1).toNatClampNeg)]) (ks6 (r0 := []) (kcL (e := (6, .invokevirtual 158, 0)) rfl) (xinvV (j := 277) (n := 1) (ci := 13) rfl rfl e2 rfl rfl)) r2 ?_
  refine .step (ks0 (st' := []) (kcL (e := (0, .pop, 0)) rfl) rfl) ?_
  exact .step (ks4 (pc' := 1476) (st' := []) (kcL (e := (4, .goto 454, 1476)) rfl) rfl) kend
theorem kca_31 (H : xRs 161 278 [.int (xs (i + Int32.ofInt 1).toNatClampNeg), .int (xs (i + Int32.ofInt 2).toNatClampNeg)] (fun a b => kI a ∧ kI b)) (hn : n ≤ 512) (hI : xRI n ph) (hA : kAg i N) : ∃ ph2, xRI (n + 1) ph2 ∧ pm_Se (kK2 xs N) false (pm_Rd kK false 600) 0 (1025, kL2 i a b d, [], ph, c, s) (23, kL2 (i + Int32.ofInt 5) a b d, [], ph2, c, s) := by
  obtain ⟨v1, v2, ph1, ph2, ⟨⟨f1, e1⟩, f2, e2⟩, r1, r2, ⟨⟨x, rfl⟩, y, rfl⟩, hI2⟩ := H n hn ph hI
  refine ⟨ph2, hI2, ?_⟩
  refine .step (ks2 (n := 1) (v := .ref 0) (kcL (e := (2, .aload_n kF1, 0)) rfl) rfl) ?_
  refine karg2 _ (hA 1 (by decide) (by decide)) rfl rfl rfl rfl rfl ?_
  refine karg2 _ (hA 2 (by decide) (by decide)) rfl rfl rfl rfl rfl ?_
  refine .call (j := 161) (as := [.ref 0, .int (xs (i + Int32.ofInt 1).toNatClampNeg), .int (xs (i + Int32.ofInt 2).toNatClampNeg)]) (ks6 (r0 := []) (kcL (e := (6, .invokevirtual 159, 0)) rfl) (xinvV (j := 161) (n := 2) (ci := 12) rfl rfl e1 rfl rfl)) r1 ?_
  refine .step (ks0 (st' := []) (kcL (e := (0, .pop, 0)) rfl) rfl) ?_
  refine .step (ks2 (n := 1) (v := .ref 170) (kcL (e := (2, .aload_n kF2, 0)) rfl) rfl) ?_
  refine karg2 _ (hA 1 (by decide) (by decide)) rfl rfl rfl rfl rfl ?_
  refine karg2 _ (hA 2 (by decide) (by decide)) rfl rfl rfl rfl rfl ?_
  refine .call (j := 278) (as := [.ref 170, .int (xs (i + Int32.ofInt 1).toNatClampNeg), .int (xs (i + Int32.ofInt 2).toNatClampNeg)]) (ks6 (r0 := []) (kcL (e := (6, .invokevirtual 162, 0)) rfl) (xinvV (j := 278) (n := 2) (ci := 13) rfl rfl e2 rfl rfl)) r2 ?_
  refine .step (ks0 (st' := []) (kcL (e := (0, .pop, 0)) rfl) rfl) ?_
  exact .step (ks4 (pc' := 1476) (st' := []) (kcL (e := (4, .goto 417, 1476)) rfl) rfl) kend
theorem kca_32 (H : xRs 164 281 [.int (xs (i + Int32.ofInt 1).toNatClampNeg), .int (xs (i + Int32.ofInt 2).toNatClampNeg)] (fun a b => kI a ∧ kI b)) (hn : n ≤ 512) (hI : xRI n ph) (hA : kAg i N) : ∃ ph2, xRI (n + 1) ph2 ∧ pm_Se (kK2 xs N) false (pm_Rd kK false 600) 0 (1062, kL2 i a b d, [], ph, c, s) (23, kL2 (i + Int32.ofInt 5) a b d, [], ph2, c, s) := by
  obtain ⟨v1, v2, ph1, ph2, ⟨⟨f1, e1⟩, f2, e2⟩, r1, r2, ⟨⟨x, rfl⟩, y, rfl⟩, hI2⟩ := H n hn ph hI
  refine ⟨ph2, hI2, ?_⟩
  refine .step (ks2 (n := 1) (v := .ref 0) (kcL (e := (2, .aload_n kF1, 0)) rfl) rfl) ?_
  refine karg2 _ (hA 1 (by decide) (by decide)) rfl rfl rfl rfl rfl ?_
  refine karg2 _ (hA 2 (by decide) (by decide)) rfl rfl rfl rfl rfl ?_
  refine .call (j := 164) (as := [.ref 0, .int (xs (i + Int32.ofInt 1).toNatClampNeg), .int (xs (i + Int32.ofInt 2).toNatClampNeg)]) (ks6 (r0 := []) (kcL (e := (6, .invokevirtual 163, 0)) rfl) (xinvV (j := 164) (n := 2) (ci := 12) rfl rfl e1 rfl rfl)) r1 ?_
  refine .step (ks0 (st' := []) (kcL (e := (0, .pop, 0)) rfl) rfl) ?_
  refine .step (ks2 (n := 1) (v := .ref 170) (kcL (e := (2, .aload_n kF2, 0)) rfl) rfl) ?_
  refine karg2 _ (hA 1 (by decide) (by decide)) rfl rfl rfl rfl rfl ?_
  refine karg2 _ (hA 2 (by decide) (by decide)) rfl rfl rfl rfl rfl ?_
  refine .call (j := 281) (as := [.ref 170, .int (xs (i + Int32.ofInt 1).toNatClampNeg), .int (xs (i + Int32.ofInt 2).toNatClampNeg)]) (ks6 (r0 := []) (kcL (e := (6, .invokevirtual 166, 0)) rfl) (xinvV (j := 281) (n := 2) (ci := 13) rfl rfl e2 rfl rfl)) r2 ?_
  refine .step (ks0 (st' := []) (kcL (e := (0, .pop, 0)) rfl) rfl) ?_
  exact .step (ks4 (pc' := 1476) (st' := []) (kcL (e := (4, .goto 380, 1476)) rfl) rfl) kend
theorem kca_33 (H : xRs 165 282 [.int (xs (i + Int32.ofInt 1).toNatClampNeg), .int (xs (i + Int32.ofInt 2).toNatClampNeg)] (fun a b => kI a ∧ kI b)) (hn : n ≤ 512) (hI : xRI n ph) (hA : kAg i N) : ∃ ph2, xRI (n + 1) ph2 ∧ pm_Se (kK2 xs N) false (pm_Rd kK false 600) 0 (1099, kL2 i a b d, [], ph, c, s) (23, kL2 (i + Int32.ofInt 5) a b d, [], ph2, c, s) := by
  obtain ⟨v1, v2, ph1, ph2, ⟨⟨f1, e1⟩, f2, e2⟩, r1, r2, ⟨⟨x, rfl⟩, y, rfl⟩, hI2⟩ := H n hn ph hI
  refine ⟨ph2, hI2, ?_⟩
  refine .step (ks2 (n := 1) (v := .ref 0) (kcL (e := (2, .aload_n kF1, 0)) rfl) rfl) ?_
  refine karg2 _ (hA 1 (by decide) (by decide)) rfl rfl rfl rfl rfl ?_
  refine karg2 _ (hA 2 (by decide) (by decide)) rfl rfl rfl rfl rfl ?_
  refine .call (j := 165) (as := [.ref 0, .int (xs (i + Int32.ofInt 1).toNatClampNeg), .int (xs (i + Int32.ofInt 2).toNatClampNeg)]) (ks6 (r0 := []) (kcL (e := (6, .invokevirtual 167, 0)) rfl) (xinvV (j := 165) (n := 2) (ci := 12) rfl rfl e1 rfl rfl)) r1 ?_
  refine .step (ks0 (st' := []) (kcL (e := (0, .pop, 0)) rfl) rfl) ?_
  refine .step (ks2 (n := 1) (v := .ref 170) (kcL (e := (2, .aload_n kF2, 0)) rfl) rfl) ?_
  refine karg2 _ (hA 1 (by decide) (by decide)) rfl rfl rfl rfl rfl ?_
  refine karg2 _ (hA 2 (by decide) (by decide)) rfl rfl rfl rfl rfl ?_
  refine .call (j := 282) (as := [.ref 170, .int (xs (i + Int32.ofInt 1).toNatClampNeg), .int (xs (i + Int32.ofInt 2).toNatClampNeg)]) (ks6 (r0 := []) (kcL (e := (6, .invokevirtual 170, 0)) rfl) (xinvV (j := 282) (n := 2) (ci := 13) rfl rfl e2 rfl rfl)) r2 ?_
  refine .step (ks0 (st' := []) (kcL (e := (0, .pop, 0)) rfl) rfl) ?_
  exact .step (ks4 (pc' := 1476) (st' := []) (kcL (e := (4, .goto 343, 1476)) rfl) rfl) kend
theorem kca_34 (H : xRs 166 283 [.int (xs (i + Int32.ofInt 1).toNatClampNeg), .int (xs (i + Int32.ofInt 2).toNatClampNeg)] (fun a b => kI a ∧ kI b)) (hn : n ≤ 512) (hI : xRI n ph) (hA : kAg i N) : ∃ ph2, xRI (n + 1) ph2 ∧ pm_Se (kK2 xs N) false (pm_Rd kK false 600) 0 (1136, kL2 i a b d, [], ph, c, s) (23, kL2 (i + Int32.ofInt 5) a b d, [], ph2, c, s) := by
  obtain ⟨v1, v2, ph1, ph2, ⟨⟨f1, e1⟩, f2, e2⟩, r1, r2, ⟨⟨x, rfl⟩, y, rfl⟩, hI2⟩ := H n hn ph hI
  refine ⟨ph2, hI2, ?_⟩
  refine .step (ks2 (n := 1) (v := .ref 0) (kcL (e := (2, .aload_n kF1, 0)) rfl) rfl) ?_
  refine karg2 _ (hA 1 (by decide) (by decide)) rfl rfl rfl rfl rfl ?_
  refine karg2 _ (hA 2 (by decide) (by decide)) rfl rfl rfl rfl rfl ?_
  refine .call (j := 166) (as := [.ref 0, .int (xs (i + Int32.ofInt 1).toNatClampNeg), .int (xs (i + Int32.ofInt 2).toNatClampNeg)]) (ks6 (r0 := []) (kcL (e := (6, .invokevirtual 171, 0)) rfl) (xinvV (j := 166) (n := 2) (ci := 12) rfl rfl e1 rfl rfl)) r1 ?_
  refine .step (ks0 (st' := []) (kcL (e := (0, .pop, 0)) rfl) rfl) ?_
  refine .step (ks2 (n := 1) (v := .ref 170) (kcL (e := (2, .aload_n kF2, 0)) rfl) rfl) ?_
  refine karg2 _ (hA 1 (by decide) (by decide)) rfl rfl rfl rfl rfl ?_
  refine karg2 _ (hA 2 (by decide) (by decide)) rfl rfl rfl rfl rfl ?_
  refine .call (j := 283) (as := [.ref 170, .int (xs (i + Int32.ofInt 1).toNatClampNeg), .int (xs (i + Int32.ofInt 2).toNatClampNeg)]) (ks6 (r0 := []) (kcL (e := (6, .invokevirtual 174, 0)) rfl) (xinvV (j := 283) (n := 2) (ci := 13) rfl rfl e2 rfl rfl)) r2 ?_
  refine .step (ks0 (st' := []) (kcL (e := (0, .pop, 0)) rfl) rfl) ?_
  exact .step (ks4 (pc' := 1476) (st' := []) (kcL (e := (4, .goto 306, 1476)) rfl) rfl) kend
theorem kca_35 (H : xRs 167 284 [] (fun a b => kI a ∧ kI b)) (hn : n ≤ 512) (hI : xRI n ph) (hA : kAg i N) : ∃ ph2, xRI (n + 1) ph2 ∧ pm_Se (kK2 xs N) false (pm_Rd kK false 600) 0 (1173, kL2 i a b d, [], ph, c, s) (23, kL2 (i + Int32.ofInt 5) a b d, [], ph2, c, s) := by
  obtain ⟨v1, v2, ph1, ph2, ⟨⟨f1, e1⟩, f2, e2⟩, r1, r2, ⟨⟨x, rfl⟩, y, rfl⟩, hI2⟩ := H n hn ph hI
  refine ⟨ph2, hI2, ?_⟩
  refine .step (ks2 (n := 1) (v := .ref 0) (kcL (e := (2, .aload_n kF1, 0)) rfl) rfl) ?_
  refine .call (j := 167) (as := [.ref 0]) (ks6 (r0 := []) (kcL (e := (6, .invokevirtual 175, 0)) rfl) (xinvV (j := 167) (n := 0) (ci := 12) rfl rfl e1 rfl rfl)) r1 ?_
  refine .step (ks0 (st' := []) (kcL (e := (0, .pop, 0)) rfl) rfl) ?_
  refine .step (ks2 (n := 1) (v := .ref 170) (kcL (e := (2, .aload_n kF2, 0)) rfl) rfl) ?_
  refine .call (j := 284) (as := [.ref 170]) (ks6 (r0 := []) (kcL (e := (6, .invokevirtual 178, 0)) rfl) (xinvV (j := 284) (n := 0) (ci := 13) rfl rfl e2 rfl rfl)) r2 ?_
  refine .step (ks0 (st' := []) (kcL (e := (0, .pop, 0)) rfl) rfl) ?_
  exact .step (ks4 (pc' := 1476) (st' := []) (kcL (e := (4, .goto 293, 1476)) rfl) rfl) kend
theorem kca_36 (H : xRs 168 286 [] (fun a b => kJ a ∧ kJ b)) (hn : n ≤ 512) (hI : xRI n ph) (hA : kAg i N) : ∃ ph2, xRI (n + 1) ph2 ∧ pm_Se (kK2 xs N) false (pm_Rd kK false 600) 0 (1186, kL2 i a b d, [], ph, c, s) (23, kL2 (i + Int32.ofInt 5) a b d, [], ph2, c, s) := by
  obtain ⟨v1, v2, ph1, ph2, ⟨⟨f1, e1⟩, f2, e2⟩, r1, r2, ⟨⟨x, rfl⟩, y, rfl⟩, hI2⟩ := H n hn ph hI
  refine ⟨ph2, hI2, ?_⟩
  refine .step (ks2 (n := 1) (v := .ref 0) (kcL (e := (2, .aload_n kF1, 0)) rfl) rfl) ?_
  refine .call (j := 168) (as := [.ref 0]) (ks6 (r0 := []) (kcL (e := (6, .invokevirtual 179, 0)) rfl) (xinvV (j := 168) (n := 0) (ci := 12) rfl rfl e1 rfl rfl)) r1 ?_
  refine .step (ks0 (st' := []) (kcL (e := (0, .pop2, 0)) rfl) rfl) ?_
  refine .step (ks2 (n := 1) (v := .ref 170) (kcL (e := (2, .aload_n kF2, 0)) rfl) rfl) ?_
  refine .call (j := 286) (as := [.ref 170]) (ks6 (r0 := []) (kcL (e := (6, .invokevirtual 182, 0)) rfl) (xinvV (j := 286) (n := 0) (ci := 13) rfl rfl e2 rfl rfl)) r2 ?_
  refine .step (ks0 (st' := []) (kcL (e := (0, .pop2, 0)) rfl) rfl) ?_
  exact .step (ks4 (pc' := 1476) (st' := []) (kcL (e := (4, .goto 280, 1476)) rfl) rfl) kend
theorem kca_37 (H : xRs 169 287 [] (fun a b => kI a ∧ kI b)) (hn : n ≤ 512) (hI : xRI n ph) (hA : kAg i N) : ∃ ph2, xRI (n + 1) ph2 ∧ pm_Se (kK2 xs N) false (pm_Rd kK false 600) 0 (1199, kL2 i a b d, [], ph, c, s) (23, kL2 (i + Int32.ofInt 5) a b d, [], ph2, c, s) := by
  obtain ⟨v1, v2, ph1, ph2, ⟨⟨f1, e1⟩, f2, e2⟩, r1, r2, ⟨⟨x, rfl⟩, y, rfl⟩, hI2⟩ := H n hn ph hI
  refine ⟨ph2, hI2, ?_⟩
  refine .step (ks2 (n := 1) (v := .ref 0) (kcL (e := (2, .aload_n kF1, 0)) rfl) rfl) ?_
  refine .call (j := 169) (as := [.ref 0]) (ks6 (r0 := []) (kcL (e := (6, .invokevirtual 183, 0)) rfl) (xinvV (j := 169) (n := 0) (ci := 12) rfl rfl e1 rfl rfl)) r1 ?_
  refine .step (ks0 (st' := []) (kcL (e := (0, .pop, 0)) rfl) rfl) ?_
  refine .step (ks2 (n := 1) (v := .ref 170) (kcL (e := (2, .aload_n kF2, 0)) rfl) rfl) ?_
  refine .call (j := 287) (as := [.ref 170]) (ks6 (r0 := []) (kcL (e := (6, .invokevirtual 186, 0)) rfl) (xinvV (j := 287) (n := 0) (ci := 13) rfl rfl e2 rfl rfl)) r2 ?_
  refine .step (ks0 (st' := []) (kcL (e := (0, .pop, 0)) rfl) rfl) ?_
  exact .step (ks4 (pc' := 1476) (st' := []) (kcL (e := (4, .goto 267, 1476)) rfl) rfl) kend
theorem kca_38 (H : xRs 171 288 [.int (xs (i + Int32.ofInt 1).toNatClampNeg), .int (xs (i + Int32.ofInt 2).toNatClampNeg), .int (xs (i + Int32.ofInt 3).toNatClampNeg)] (fun a b => kI a ∧ kI b)) (hn : n ≤ 512) (hI : xRI n ph) (hA : kAg i N) : ∃ ph2, xRI (n + 1) ph2 ∧ pm_Se (kK2 xs N) false (pm_Rd kK false 600) 0 (1212, kL2 i a b d, [], ph, c, s) (23, kL2 (i + Int32.ofInt 5) a b d, [], ph2, c, s) := by
  obtain ⟨v1, v2, ph1, ph2, ⟨⟨f1, e1⟩, f2, e2⟩, r1, r2, ⟨⟨x, rfl⟩, y, rfl⟩, hI2⟩ := H n hn ph hI
  refine ⟨ph2, hI2, ?_⟩
  refine .step (ks2 (n := 1) (v := .ref 0) (kcL (e := (2, .aload_n kF1, 0)) rfl) rfl) ?_
  refine karg2 _ (hA 1 (by decide) (by decide)) rfl rfl rfl rfl rfl ?_
  refine karg2 _ (hA 2 (by decide) (by decide)) rfl rfl rfl rfl rfl ?_
  refine karg2 _ (hA 3 (by decide) (by decide)) rfl rfl rfl rfl rfl ?_
  refine .call (j := 171) (as := [.ref 0, .int (xs (i + Int32.ofInt 1).toNatClampNeg), .int (xs (i + Int32.ofInt 2).toNatClampNeg), .int (xs (i + Int32.ofInt 3).toNatClampNeg)]) (ks6 (r0 := []) (kcL (e := (6, .invokevirtual 187, 0)) rfl) (xinvV (j := 171) (n := 3) (ci := 12) rfl rfl e1 rfl rfl)) r1 ?_
  refine .step (ks0 (st' := []) (kcL (e := (0, .pop, 0)) rfl) rfl) ?_
  refine .step (ks2 (n := 1) (v := .ref 170) (kcL (e := (2, .aload_n kF2, 0)) rfl) rfl) ?_
  refine karg2 _ (hA 1 (by decide) (by decide)) rfl rfl rfl rfl rfl ?_
  refine karg2 _ (hA 2 (by decide) (by decide)) rfl rfl rfl rfl rfl ?_
  refine karg2 _ (hA 3 (by decide) (by decide)) rfl rfl rfl rfl rfl ?_
  refine .call (j := 288) (as := [.ref 170, .int (xs (i + Int32.ofInt 1).toNatClampNeg), .int (xs (i + Int32.ofInt 2).toNatClampNeg), .int (xs (i + Int32.ofInt 3).toNatClampNeg)]) (ks6 (r0 := []) (kcL (e := (6, .invokevirtual 191, 0)) rfl) (xinvV (j := 288) (n := 3) (ci := 13) rfl rfl e2 rfl rfl)) r2 ?_
  refine .step (ks0 (st' := []) (kcL (e := (0, .pop, 0)) rfl) rfl) ?_
  exact .step (ks4 (pc' := 1476) (st' := []) (kcL (e := (4, .goto 218, 1476)) rfl) rfl) kend
theorem kca_39 (H : xRs 172 289 [.int (xs (i + Int32.ofInt 1).toNatClampNeg), .int (xs (i + Int32.ofInt 2).toNatClampNeg)] (fun a b => kI a ∧ kI b)) (hn : n ≤ 512) (hI : xRI n ph) (hA : kAg i N) : ∃ ph2, xRI (n + 1) ph2 ∧ pm_Se (kK2 xs N) false (pm_Rd kK false 600) 0 (1261, kL2 i a b d, [], ph, c, s) (23, kL2 (i + Int32.ofInt 5) a b d, [], ph2, c, s) := by
  obtain ⟨v1, v2, ph1, ph2, ⟨⟨f1, e1⟩, f2, e2⟩, r1, r2, ⟨⟨x, rfl⟩, y, rfl⟩, hI2⟩ := H n hn ph hI
  refine ⟨ph2, hI2, ?_⟩
  refine .step (ks2 (n := 1) (v := .ref 0) (kcL (e := (2, .aload_n kF1, 0)) rfl) rfl) ?_
  refine karg2 _ (hA 1 (by decide) (by decide)) rfl rfl rfl rfl rfl ?_
  refine karg2 _ (hA 2 (by decide) (by decide)) rfl rfl rfl rfl rfl ?_
  refine .call (j := 172) (as := [.ref 0, .int (xs (i + Int32.ofInt 1).toNatClampNeg), .int (xs (i + Int32.ofInt 2).toNatClampNeg)]) (ks6 (r0 := []) (kcL (e := (6, .invokevirtual 192, 0)) rfl) (xinvV (j := 172) (n := 2) (ci := 12) rfl rfl e1 rfl rfl)) r1 ?_
  refine .step (ks0 (st' := []) (kcL (e := (0, .pop, 0)) rfl) rfl) ?_
  refine .step (ks2 (n := 1) (v := .ref 170) (kcL (e := (2, .aload_n kF2, 0)) rfl) rfl) ?_
  refine karg2 _ (hA 1 (by decide) (by decide)) rfl rfl rfl rfl rfl ?_
  refine karg2 _ (hA 2 (by decide) (by decide)) rfl rfl rfl rfl rfl ?_
  refine .call (j := 289) (as := [.ref 170, .int (xs (i + Int32.ofInt 1).toNatClampNeg), .int (xs (i + Int32.ofInt 2).toNatClampNeg)]) (ks6 (r0 := []) (kcL (e := (6, .invokevirtual 195, 0)) rfl) (xinvV (j := 289) (n := 2) (ci := 13) rfl rfl e2 rfl rfl)) r2 ?_
  refine .step (ks0 (st' := []) (kcL (e := (0, .pop, 0)) rfl) rfl) ?_
  exact .step (ks4 (pc' := 1476) (st' := []) (kcL (e := (4, .goto 181, 1476)) rfl) rfl) kend
theorem kca_40 (H : xRs 173 290 [] (fun a b => kI a ∧ kI b)) (hn : n ≤ 512) (hI : xRI n ph) (hA : kAg i N) : ∃ ph2, xRI (n + 1) ph2 ∧ pm_Se (kK2 xs N) false (pm_Rd kK false 600) 0 (1298, kL2 i a b d, [], ph, c, s) (23, kL2 (i + Int32.ofInt 5) a b d, [], ph2, c, s) := by
  obtain ⟨v1, v2, ph1, ph2, ⟨⟨f1, e1⟩, f2, e2⟩, r1, r2, ⟨⟨x, rfl⟩, y, rfl⟩, hI2⟩ := H n hn ph hI
  refine ⟨ph2, hI2, ?_⟩
  refine .step (ks2 (n := 1) (v := .ref 0) (kcL (e := (2, .aload_n kF1, 0)) rfl) rfl) ?_
  refine .call (j := 173) (as := [.ref 0]) (ks6 (r0 := []) (kcL (e := (6, .invokevirtual 196, 0)) rfl) (xinvV (j := 173) (n := 0) (ci := 12) rfl rfl e1 rfl rfl)) r1 ?_
  refine .step (ks0 (st' := []) (kcL (e := (0, .pop, 0)) rfl) rfl) ?_
  refine .step (ks2 (n := 1) (v := .ref 170) (kcL (e := (2, .aload_n kF2, 0)) rfl) rfl) ?_
  refine .call (j := 290) (as := [.ref 170]) (ks6 (r0 := []) (kcL (e := (6, .invokevirtual 199, 0)) rfl) (xinvV (j := 290) (n := 0) (ci := 13) rfl rfl e2 rfl rfl)) r2 ?_
  refine .step (ks0 (st' := []) (kcL (e := (0, .pop, 0)) rfl) rfl) ?_
  exact .step (ks4 (pc' := 1476) (st' := []) (kcL (e := (4, .goto 168, 1476)) rfl) rfl) kend
theorem kca_41 (H : xRs 174 293 [.int (xs (i + Int32.ofInt 1).toNatClampNeg)] (fun a b => kI a ∧ kI b)) (hn : n ≤ 512) (hI : xRI n ph) (hA : kAg i N) : ∃ ph2, xRI (n + 1) ph2 ∧ pm_Se (kK2 xs N) false (pm_Rd kK false 600) 0 (1311, kL2 i a b d, [], ph, c, s) (23, kL2 (i + Int32.ofInt 5) a b d, [], ph2, c, s) := by
  obtain ⟨v1, v2, ph1, ph2, ⟨⟨f1, e1⟩, f2, e2⟩, r1, r2, ⟨⟨x, rfl⟩, y, rfl⟩, hI2⟩ := H n hn ph hI
  refine ⟨ph2, hI2, ?_⟩
  refine .step (ks2 (n := 1) (v := .ref 0) (kcL (e := (2, .aload_n kF1, 0)) rfl) rfl) ?_
  refine karg2 _ (hA 1 (by decide) (by decide)) rfl rfl rfl rfl rfl ?_
  refine .call (j := 174) (as := [.ref 0, .int (xs (i + Int32.ofInt 1).toNatClampNeg)]) (ks6 (r0 := []) (kcL (e := (6, .invokevirtual 200, 0)) rfl) (xinvV (j := 174) (n := 1) (ci := 12) rfl rfl e1 rfl rfl)) r1 ?_
  refine .step (ks0 (st' := []) (kcL (e := (0, .pop, 0)) rfl) rfl) ?_
  refine .step (ks2 (n := 1) (v := .ref 170) (kcL (e := (2, .aload_n kF2, 0)) rfl) rfl) ?_
  refine karg2 _ (hA 1 (by decide) (by decide)) rfl rfl rfl rfl rfl ?_
  refine .call (j := 293) (as := [.ref 170, .int (xs (i + Int32.ofInt 1).toNatClampNeg)]) (ks6 (r0 := []) (kcL (e := (6, .invokevirtual 203, 0)) rfl) (xinvV (j := 293) (n := 1) (ci := 13) rfl rfl e2 rfl rfl)) r2 ?_
  refine .step (ks0 (st' := []) (kcL (e := (0, .pop, 0)) rfl) rfl) ?_
  exact .step (ks4 (pc' := 1476) (st' := []) (kcL (e := (4, .goto 143, 1476)) rfl) rfl) kend
theorem kca_42 (H : xRs 175 295 [.int (xs (i + Int32.ofInt 1).toNatClampNeg), .int (xs (i + Int32.ofInt 2).toNatClampNeg)] (fun a b => kI a ∧ kI b)) (hn : n ≤ 512) (hI : xRI n ph) (hA : kAg i N) : ∃ ph2, xRI (n + 1) ph2 ∧ pm_Se (kK2 xs N) false (pm_Rd kK false 600) 0 (1336, kL2 i a b d, [], ph, c, s) (23, kL2 (i + Int32.ofInt 5) a b d, [], ph2, c, s) := by
  obtain ⟨v1, v2, ph1, ph2, ⟨⟨f1, e1⟩, f2, e2⟩, r1, r2, ⟨⟨x, rfl⟩, y, rfl⟩, hI2⟩ := H n hn ph hI
  refine ⟨ph2, hI2, ?_⟩
  refine .step (ks2 (n := 1) (v := .ref 0) (kcL (e := (2, .aload_n kF1, 0)) rfl) rfl) ?_
  refine karg2 _ (hA 1 (by decide) (by decide)) rfl rfl rfl rfl rfl ?_
  refine karg2 _ (hA 2 (by decide) (by decide)) rfl rfl rfl rfl rfl ?_
  refine .call (j := 175) (as := [.ref 0, .int (xs (i + Int32.ofInt 1).toNatClampNeg), .int (xs (i + Int32.ofInt 2).toNatClampNeg)]) (ks6 (r0 := []) (kcL (e := (6, .invokevirtual 204, 0)) rfl) (xinvV (j := 175) (n := 2) (ci := 12) rfl rfl e1 rfl rfl)) r1 ?_
  refine .step (ks0 (st' := []) (kcL (e := (0, .pop, 0)) rfl) rfl) ?_
  refine .step (ks2 (n := 1) (v := .ref 170) (kcL (e := (2, .aload_n kF2, 0)) rfl) rfl) ?_
  refine karg2 _ (hA 1 (by decide) (by decide)) rfl rfl rfl rfl rfl ?_
  refine karg2 _ (hA 2 (by decide) (by decide)) rfl rfl rfl rfl rfl ?_
  refine .call (j := 295) (as := [.ref 170, .int (xs (i + Int32.ofInt 1).toNatClampNeg), .int (xs (i + Int32.ofInt 2).toNatClampNeg)]) (ks6 (r0 := []) (kcL (e := (6, .invokevirtual 207, 0)) rfl) (xinvV (j := 295) (n := 2) (ci := 13) rfl rfl e2 rfl rfl)) r2 ?_
  refine .step (ks0 (st' := []) (kcL (e := (0, .pop, 0)) rfl) rfl) ?_
  exact .step (ks4 (pc' := 1476) (st' := []) (kcL (e := (4, .goto 106, 1476)) rfl) rfl) kend
theorem kca_43 (H : xRs 177 296 [.int (xs (i + Int32.ofInt 1).toNatClampNeg)] (fun a b => kI a ∧ kI b)) (hn : n ≤ 512) (hI : xRI n ph) (hA : kAg i N) : ∃ ph2, xRI (n + 1) ph2 ∧ pm_Se (kK2 xs N) false (pm_Rd kK false 600) 0 (1373, kL2 i a b d, [], ph, c, s) (23, kL2 (i + Int32.ofInt 5) a b d, [], ph2, c, s) := by
  obtain ⟨v1, v2, ph1, ph2, ⟨⟨f1, e1⟩, f2, e2⟩, r1, r2, ⟨⟨x, rfl⟩, y, rfl⟩, hI2⟩ := H n hn ph hI
  refine ⟨ph2, hI2, ?_⟩
  refine .step (ks2 (n := 1) (v := .ref 0) (kcL (e := (2, .aload_n kF1, 0)) rfl) rfl) ?_
  refine karg2 _ (hA 1 (by decide) (by decide)) rfl rfl rfl rfl rfl ?_
  refine .call (j := 177) (as := [.ref 0, .int (xs (i + Int32.ofInt 1).toNatClampNeg)]) (ks6 (r0 := []) (kcL (e := (6, .invokevirtual 208, 0)) rfl) (xinvV (j := 177) (n := 1) (ci := 12) rfl rfl e1 rfl rfl)) r1 ?_
  refine .step (ks0 (st' := []) (kcL (e := (0, .pop, 0)) rfl) rfl) ?_
  refine .step (ks2 (n := 1) (v := .ref 170) (kcL (e := (2, .aload_n kF2, 0)) rfl) rfl) ?_
  refine karg2 _ (hA 1 (by decide) (by decide)) rfl rfl rfl rfl rfl ?_
  refine .call (j := 296) (as := [.ref 170, .int (xs (i + Int32.ofInt 1).toNatClampNeg)]) (ks6 (r0 := []) (kcL (e := (6, .invokevirtual 211, 0)) rfl) (xinvV (j := 296) (n := 1) (ci := 13) rfl rfl e2 rfl rfl)) r2 ?_
  refine .step (ks0 (st' := []) (kcL (e := (0, .pop, 0)) rfl) rfl) ?_
  exact .step (ks4 (pc' := 1476) (st' := []) (kcL (e := (4, .goto 81, 1476)) rfl) rfl) kend
theorem kca_44 (H : xRs 178 297 [.int (xs (i + Int32.ofInt 1).toNatClampNeg)] (fun a b => kI a ∧ kI b)) (hn : n ≤ 512) (hI : xRI n ph) (hA : kAg i N) : ∃ ph2, xRI (n + 1) ph2 ∧ pm_Se (kK2 xs N) false (pm_Rd kK false 600) 0 (1398, kL2 i a b d, [], ph, c, s) (23, kL2 (i + Int32.ofInt 5) a b d, [], ph2, c, s) := by
  obtain ⟨v1, v2, ph1, ph2, ⟨⟨f1, e1⟩, f2, e2⟩, r1, r2, ⟨⟨x, rfl⟩, y, rfl⟩, hI2⟩ := H n hn ph hI
  refine ⟨ph2, hI2, ?_⟩
  refine .step (ks2 (n := 1) (v := .ref 0) (kcL (e := (2, .aload_n kF1, 0)) rfl) rfl) ?_
  refine karg2 _ (hA 1 (by decide) (by decide)) rfl rfl rfl rfl rfl ?_
  refine .call (j := 178) (as := [.ref 0, .int (xs (i + Int32.ofInt 1).toNatClampNeg)]) (ks6 (r0 := []) (kcL (e := (6, .invokevirtual 212, 0)) rfl) (xinvV (j := 178) (n := 1) (ci := 12) rfl rfl e1 rfl rfl)) r1 ?_
  refine .step (ks0 (st' := []) (kcL (e := (0, .pop, 0)) rfl) rfl) ?_
  refine .step (ks2 (n := 1) (v := .ref 170) (kcL (e := (2, .aload_n kF2, 0)) rfl) rfl) ?_
  refine karg2 _ (hA 1 (by decide) (by decide)) rfl rfl rfl rfl rfl ?_
  refine .call (j := 297) (as := [.ref 170, .int (xs (i + Int32.ofInt 1).toNatClampNeg)]) (ks6 (r0 := []) (kcL (e := (6, .invokevirtual 215, 0)) rfl) (xinvV (j := 297) (n := 1) (ci := 13) rfl rfl e2 rfl rfl)) r2 ?_
  refine .step (ks0 (st' := []) (kcL (e := (0, .pop, 0)) rfl) rfl) ?_
  exact .step (ks4 (pc' := 1476) (st' := []) (kcL (e := (4, .goto 56, 1476)) rfl) rfl) kend
theorem kca_45 (H : xRs 179 298 [.int (xs (i + Int32.ofInt 1).toNatClampNeg)] (fun a b => kI a ∧ kI b)) (hn : n ≤ 512) (hI : xRI n ph) (hA : kAg i N) : ∃ ph2, xRI (n + 1) ph2 ∧ pm_Se (kK2 xs N) false (pm_Rd kK false 600) 0 (1423, kL2 i a b d, [], ph, c, s) (23, kL2 (i + Int32.ofInt 5) a b d, [], ph2, c, s) := by
  obtain ⟨v1, v2, ph1, ph2, ⟨⟨f1, e1⟩, f2, e2⟩, r1, r2, ⟨⟨x, rfl⟩, y, rfl⟩, hI2⟩ := H n hn ph hI
  refine ⟨ph2, hI2, ?_⟩
  refine .step (ks2 (n := 1) (v := .ref 0) (kcL (e := (2, .aload_n kF1, 0)) rfl) rfl) ?_
  refine karg2 _ (hA 1 (by decide) (by decide)) rfl rfl rfl rfl rfl ?_
  refine .call (j := 179) (as := [.ref 0, .int (xs (i + Int32.ofInt 1).toNatClampNeg)]) (ks6 (r0 := []) (kcL (e := (6, .invokevirtual 216, 0)) rfl) (xinvV (j := 179) (n := 1) (ci := 12) rfl rfl e1 rfl rfl)) r1 ?_
  refine .step (ks0 (st' := []) (kcL (e := (0, .pop, 0)) rfl) rfl) ?_
  refine .step (ks2 (n := 1) (v := .ref 170) (kcL (e := (2, .aload_n kF2, 0)) rfl) rfl) ?_
  refine karg2 _ (hA 1 (by decide) (by decide)) rfl rfl rfl rfl rfl ?_
  refine .call (j := 298) (as := [.ref 170, .int (xs (i + Int32.ofInt 1).toNatClampNeg)]) (ks6 (r0 := []) (kcL (e := (6, .invokevirtual 219, 0)) rfl) (xinvV (j := 298) (n := 1) (ci := 13) rfl rfl e2 rfl rfl)) r2 ?_
  refine .step (ks0 (st' := []) (kcL (e := (0, .pop, 0)) rfl) rfl) ?_
  exact .step (ks4 (pc' := 1476) (st' := []) (kcL (e := (4, .goto 31, 1476)) rfl) rfl) kend
end KCS
theorem knpT {j : Nat} {kc : List (List (Nat × Nat × Instr × Nat))} (hk : ∀ pc, pm_code kK j pc = pm_tl kc pc) (h : ∀ c ∈ kc, ∀ q ∈ c, pm_npf q.2.2.1 = true ∧ Nat.beq q.2.1 8 = false) : ∀ pc g ins aux, pm_code kK j pc = some (g, ins, aux) → (∀ i, ins ≠ .putfield i) ∧ g ≠ 8 := by
  intro pc g ins aux h1
  rw [hk] at h1
  obtain ⟨c, hc, hq⟩ := pm_tl_mem h1
  obtain ⟨h2, h3⟩ := h c hc _ hq
  exact ⟨fun i e => (by subst e; cases h2), fun e => (by subst e; cases h3)⟩
section KT4
variable {p : Program} {l : Launch} {e : Env} {s : State} {m : MethodId} {below : List Frame} {meth : Method} {c : Code} {b L n : Nat} {xs : Nat → Int32} {D : va_G} {dA : Nat → ClassId} {ra : Nat → Nat} {i : Int32} {a5 a6 a7 : Option Value} {ph : pm_H} {cs ss : Nat} {Q : State → Prop}
theorem xRI_out {y : Int64} (h : xRI n ph) : ∃ l : List Int64, pm_at ph 201 = some (.inl (2, .inr (.inl l))) ∧ 0 < l.length ∧ xRI n (ph.set 201 (.inl (2, .inr (.inl (l.set 0 y))))) := by
  obtain ⟨l, h1, h2, h3, h4⟩ := kout h.1 y
  obtain ⟨hP, z, hR⟩ := h
  exact ⟨l, h1, h2, h3, z, xRE_q h3 (xu0_E (i := 87) (xLE_G8 n) h4 rfl (by decide) hR.1) (fun a k t => by
    unfold zc
    rw [h4.2 a (zP_201 t)]) hR⟩
theorem knp_129 : ∀ c ∈ kc_129, ∀ q ∈ c, pm_npf q.2.2.1 = true ∧ Nat.beq q.2.1 8 = false := by decide +kernel
theorem kpre_person {cs ss : Nat} (hA : kAg i L) : pm_Se (kK2 xs L) false (pm_Rd kK false 600) 0 (355, kL2 i a5 a6 a7, [], ph, cs, ss) (369, kL2 i a5 a6 a7, [.ref 201, .int (xs (i + Int32.ofInt 2).toNatClampNeg), .int (xs (i + Int32.ofInt 1).toNatClampNeg), .ref 0], ph, cs, ss) := by
  refine .step (ks2 (n := 1) (v := .ref 0) (kcL (e := (2, .aload_n kF1, 0)) rfl) rfl) ?_
  refine karg2 _ (hA 1 (by decide) (by decide)) rfl rfl rfl rfl rfl ?_
  refine karg2 _ (hA 2 (by decide) (by decide)) rfl rfl rfl rfl rfl ?_
  exact .step (ks2 (n := 1) (v := .ref 201) (kcL (e := (2, .aload_n kF3, 0)) rfl) rfl) .rf
theorem kpost_person {cs ss : Nat} {k : Int32} (hn : n ≤ 512) (hI : xRI n ph) (hA : kAg i L) : ∃ (x5 x6 x7 : Option Value) (ph2 : pm_H), xRI (n + 1) ph2 ∧ pm_Se (kK2 xs L) false (pm_Rd kK false 600) 0 (372, kL2 i a5 a6 a7, [.int k], ph, cs, ss) (23, kL2 (i + Int32.ofInt 5) x5 x6 x7, [], ph2, cs, ss) := by
  obtain ⟨f, e1⟩ := xat170 hI.1
  obtain ⟨z9, hz9⟩ := hI.2
  obtain ⟨v, ph2, r2, ⟨x, rfl⟩, hI21, hI22⟩ := xrm_person n hn z9 ph hI.1 hz9
  have hI2 : xRI (n + 1) ph2 := ⟨hI21, z9, hI22⟩
  refine ⟨some (.int k), some (.int x), a7, ph2, hI2, ?_⟩
  refine .step (ks3 (n := 2) (L' := kL2 i (some (.int k)) a6 a7) (st' := []) (kcL (e := (3, .istore 5, 0)) rfl) rfl) ?_
  refine .step (ks2 (n := 1) (v := .ref 170) (kcL (e := (2, .aload_n kF2, 0)) rfl) rfl) ?_
  refine karg2 _ (hA 1 (by decide) (by decide)) rfl rfl rfl rfl rfl ?_
  refine karg2 _ (hA 2 (by decide) (by decide)) rfl rfl rfl rfl rfl ?_
  refine .call (j := 235) (as := [.ref 170, .int (xs (i + Int32.ofInt 1).toNatClampNeg), .int (xs (i + Int32.ofInt 2).toNatClampNeg)]) (ks6 (r0 := []) (kcL (e := (6, .invokevirtual 62, 0)) rfl) (xinvV (j := 235) (n := 2) (ci := 13) rfl rfl e1 rfl rfl)) r2 ?_
  refine .step (ks3 (n := 2) (L' := kL2 i (some (.int k)) (some (.int x)) a7) (st' := []) (kcL (e := (3, .istore 6, 0)) rfl) rfl) ?_
  exact .step (ks4 (pc' := 1476) (st' := []) (kcL (e := (4, .goto 1084, 1476)) rfl) rfl) kend
theorem kcase_person (hl : l.stackTraces = false) (F : kFx p s m meth c b L xs D dA ra) (Z : kTs s.heap.size s s.heap) (hc : cs ≤ 600524) (hs : ss ≤ 7292534) (hn : n ≤ 512) (hI : xRI n ph) (hA : kAg i L) (kk : ∀ (x5 x6 x7 : Option Value) (ph2 : pm_H), xRI (n + 1) ph2 → kW p l e s m below meth c b D dA ra false Q (23, kL2 (i + Int32.ofInt 5) x5 x6 x7, [], ph2, cs + 1, ss + 6)) : kW p l e s m below meth c b D dA ra false Q (355, kL2 i a5 a6 a7, [], ph, cs, ss) := by
  refine kW_se F (by decide) (kpre_person hA) (show cs ≤ 601024 by omega) (show ss ≤ 7293034 by omega) ?_
  have fin : ∀ (k : Int32) (ph1 : pm_H), xRI n ph1 → kW p l e s m below meth c b D dA ra false Q (372, kL2 i a5 a6 a7, [.int k], ph1, cs + 1, ss + 6) := fun k ph1 h1 => by
    obtain ⟨x5, x6, x7, ph2, h2, h3⟩ := kpost_person (a5 := a5) (a6 := a6) (a7 := a7) (cs := cs + 1) (ss := ss + 6) (k := k) (xs := xs) hn h1 hA
    exact kW_se F (by decide) h3 (show cs + 1 ≤ 601024 by omega) (show ss + 6 ≤ 7293034 by omega) (kk x5 x6 x7 ph2 h2)
  have hat := xat0 hI.1
  obtain ⟨fs, hat⟩ := hat
  obtain ⟨z9, hz9⟩ := hI.2
  rcases xcl_person (xEq_G (n := n) (z := z9) (ph := ph)) (xEq_C hI.1 hz9) (xLm_le (by omega)) xLm_0 (D := 500) (by decide) (p := (xs (i + Int32.ofInt 1).toNatClampNeg)) (y := (xs (i + Int32.ofInt 2).toNatClampNeg)) hI.1 (xEq_0 hI.1 hz9) with ⟨r, ph1, h1, h2, h3⟩ | HT
  · obtain ⟨l1, g1, g2, g3⟩ := xRI_out (n := n) (y := r.toInt64) ⟨h2, z9, xEq_R hI.1 h2 hz9 h3⟩
    have hM := knorm (D := D) (dA := dA) (B := s.heap.size) (ra := ra) (hh := [(0, 10, 13, 13)]) l (y := (⟨"BonnetValleyLaw", "person", "(LBonnetValley;II[J)I"⟩ : MethodName)) (as := [.ref 0, .int (xs (i + Int32.ofInt 1).toNatClampNeg), .int (xs (i + Int32.ofInt 2).toNatClampNeg), .ref 201]) rfl rfl kRo_person rfl (kRr_person (m := 0) (w := 0) hat h1 g1 g2) (by decide +kernel)
    exact kW_help (ix := 57) (n := 4) (as := [.ref 0, .int (xs (i + Int32.ofInt 1).toNatClampNeg), .int (xs (i + Int32.ofInt 2).toNatClampNeg), .ref 201]) (r := []) F Z hM rfl (by decide) (by decide +kernel) (kvin_ok (by decide +kernel)) (kvin_ok (by decide +kernel)) (kvin_ok (by decide +kernel)) (kvin_ok (by decide +kernel)) (by decide +kernel) (by decide) (by decide) (by omega) (by omega) (fin _ _ g3)
  · obtain ⟨pc9, hpc, n9, hn9⟩ := HT
    rcases hpc with rfl | rfl
    · have hx := kthrow (D := D) (dA := dA) (B := s.heap.size) (ra := ra) l hl (d := 500) (mj := 129) (as := [.ref 0, .int (xs (i + Int32.ofInt 1).toNatClampNeg), .int (xs (i + Int32.ofInt 2).toNatClampNeg)]) (Qc := va_Qi (S := Unit) (fun _ _ => False) (fun _ _ => True) (fun q => s.heap.size ≤ q)) rfl hn9 (by decide) ⟨_, rfl⟩ (by decide +kernel) (knpT (kc := kc_129) (fun _ => rfl) knp_129) (by decide +kernel) (by decide +kernel) (by decide +kernel) (by decide +kernel)
      have hM := khelp2 (ph := ph) l (y := (⟨"BonnetValleyLaw", "person", "(LBonnetValley;II[J)I"⟩ : MethodName)) (bytes := method_3_code) (ix := 7) (jx := 129) (d := 501) hat (by decide +kernel) rfl (by decide) (by decide +kernel) (by decide +kernel) (by decide +kernel) (by decide +kernel) (by decide +kernel) (by decide +kernel) (by decide +kernel) (by decide +kernel) (by decide +kernel) ⟨_, rfl⟩ (by decide +kernel) (kvin_ok (by decide +kernel)) (kvin_ok (by decide +kernel)) (kvin_ok (by decide +kernel)) (by decide +kernel) hx
      exact kW_help (ix := 57) (n := 4) (as := [.ref 0, .int (xs (i + Int32.ofInt 1).toNatClampNeg), .int (xs (i + Int32.ofInt 2).toNatClampNeg), .ref 201]) (r := []) F Z hM rfl (by decide) (by decide +kernel) (kvin_ok (by decide +kernel)) (kvin_ok (by decide +kernel)) (kvin_ok (by decide +kernel)) (kvin_ok (by decide +kernel)) (by decide +kernel) (by decide) (by decide) (by omega) (by omega) (fin _ _ hI)
    · have hx := kthrow (D := D) (dA := dA) (B := s.heap.size) (ra := ra) l hl (d := 500) (mj := 129) (as := [.ref 0, .int (xs (i + Int32.ofInt 1).toNatClampNeg), .int (xs (i + Int32.ofInt 2).toNatClampNeg)]) (Qc := va_Qi (S := Unit) (fun _ _ => False) (fun _ _ => True) (fun q => s.heap.size ≤ q)) rfl hn9 (by decide) ⟨_, rfl⟩ (by decide +kernel) (knpT (kc := kc_129) (fun _ => rfl) knp_129) (by decide +kernel) (by decide +kernel) (by decide +kernel) (by decide +kernel)
      have hM := khelp2 (ph := ph) l (y := (⟨"BonnetValleyLaw", "person", "(LBonnetValley;II[J)I"⟩ : MethodName)) (bytes := method_3_code) (ix := 7) (jx := 129) (d := 501) hat (by decide +kernel) rfl (by decide) (by decide +kernel) (by decide +kernel) (by decide +kernel) (by decide +kernel) (by decide +kernel) (by decide +kernel) (by decide +kernel) (by decide +kernel) (by decide +kernel) ⟨_, rfl⟩ (by decide +kernel) (kvin_ok (by decide +kernel)) (kvin_ok (by decide +kernel)) (kvin_ok (by decide +kernel)) (by decide +kernel) hx
      exact kW_help (ix := 57) (n := 4) (as := [.ref 0, .int (xs (i + Int32.ofInt 1).toNatClampNeg), .int (xs (i + Int32.ofInt 2).toNatClampNeg), .ref 201]) (r := []) F Z hM rfl (by decide) (by decide +kernel) (kvin_ok (by decide +kernel)) (kvin_ok (by decide +kernel)) (kvin_ok (by decide +kernel)) (kvin_ok (by decide +kernel)) (by decide +kernel) (by decide) (by decide) (by omega) (by omega) (fin _ _ hI)
theorem klal {K : pm_K} {al : Bool} {mj pc c s aux : Nat} {y : Int64} {L : List (Option Value)} {st : List Value} {ph : pm_H} {l : List Int64} (hc : pm_code K mj pc = some (5, .laload, aux)) (hat : pm_at ph 201 = some (.inl (2, .inr (.inl l)))) (hy : l[0]? = some y) : pm_step K al mj (pc, L, .int (Int32.ofInt 0) :: .ref 201 :: st, ph, c, s) = some (.inl (pc + 1, L, .long y :: st, ph, c, s)) := ks5 (c1 := 0) (s1 := 0) hc (by
  have e := xix_eq (l := l) (i := Int32.ofInt 0) (by rw [ki0]; exact Int.le_refl _)
  rw [ki0, show (0 : Int).toNat = 0 from rfl, hy] at e
  unfold pm_mem
  simp only [hat, e])
theorem kzout {m : Int} {w : Nat} {ph : pm_H} {y : Int64} (hP : xH xX kK m w ph) (hz : zc ph 201 0 = some (.long y)) : ∃ l : List Int64, pm_at ph 201 = some (.inl (2, .inr (.inl l))) ∧ l[0]? = some y := by
  obtain ⟨l, hat, -, -, -⟩ := kout hP 0
  refine ⟨l, hat, ?_⟩
  unfold zc at hz
  rw [hat] at hz
  simp only at hz
  cases e : l[0]? with
  | none => rw [e] at hz; cases hz
  | some x => rw [e] at hz; cases hz; rfl
theorem ykc_331 {pc : Nat} {e : Nat × Instr × Nat} (h : pm_tl kc_331 pc = some e) : pm_code kK 331 pc = some e := h
theorem kthr {ph : pm_H} {fl : List Value} {T : Int32} {D : Nat} (hat : pm_at ph 170 = some (.inr (13, fl))) (hz : zc ph 170 0 = some (.int T)) : pm_Rd kK false (D + 1) 331 [.ref 170] ph (some (.int T), ph, 0, 0) := by
  have hv : fl[0]? = some (.int T) := by
    unfold zc at hz
    rw [hat] at hz
    exact hz
  refine ⟨rfl, 3, ?_⟩
  have he : pm_ent kK 331 [.ref 170] ph = (0, [some (.ref 170)], [], ph, 0, 0) := rfl
  rw [he, pm_Tn, ks2 (ykc_331 (e := (2, .aload_n kF0, 0)) rfl) (v := .ref 170) (n := 1) rfl]
  simp only
  rw [pm_Tn, xgfs (ykc_331 (e := (5, .getfield 3, 0)) rfl) rfl hat hv]
  simp only
  rw [pm_Tn, ks7 (ykc_331 (e := (7, .ireturn, 0)) rfl) (v := some (.int T)) rfl]
theorem kne {o : Int} {aux pc : Nat} {r : Int32} {q : List Value} (h : r.toInt ≠ 0) : pm_br (.ifCond .ne o) aux pc (.int r :: q) = some (aux, q) := by
  have e : decide (r = 0) = false := decide_eq_false (fun e => h (by rw [e]; decide))
  show some (bif decide (r = 0) then pc + 3 else aux, q) = _
  rw [e]
  rfl
theorem knz {o : Int} {aux pc : Nat} {q : List Value} : pm_br (.ifCond .ne o) aux pc (.int (Int32.ofInt 0) :: q) = some (pc + 3, q) := by
  show some (bif decide (Int32.ofInt 0 = 0) then pc + 3 else aux, q) = _
  rw [decide_eq_true (by decide)]
  rfl
theorem xRE_out {n : Nat} {z : zPar} {ph : pm_H} {y : Int64} (hP : xH xX kK (xLm n) 0 ph) (hR : xRE n z ph) : ∃ l : List Int64, pm_at ph 201 = some (.inl (2, .inr (.inl l))) ∧ 0 < l.length ∧ xH xX kK (xLm n) 0 (ph.set 201 (.inl (2, .inr (.inl (l.set 0 y))))) ∧ xRE n z (ph.set 201 (.inl (2, .inr (.inl (l.set 0 y))))) ∧ zc (ph.set 201 (.inl (2, .inr (.inl (l.set 0 y))))) 201 0 = some (.long y) := by
  obtain ⟨l, h1, h2, h3, h4⟩ := kout hP y
  refine ⟨l, h1, h2, h3, xRE_q h3 (xu0_E (i := 87) (xLE_G8 n) h4 rfl (by decide) hR.1) (fun a k t => by
    unfold zc
    rw [h4.2 a (zP_201 t)]) hR, ?_⟩
  unfold zc
  rw [xat_self h1]
  simp only
  rw [List.getElem?_set_self h2]
  rfl
theorem knp_130 : ∀ c ∈ kc_130, ∀ q ∈ c, pm_npf q.2.2.1 = true ∧ Nat.beq q.2.1 8 = false := by decide +kernel
theorem kpre_thing {cs ss : Nat} (hA : kAg i L) : pm_Se (kK2 xs L) false (pm_Rd kK false 600) 0 (395, kL2 i a5 a6 a7, [], ph, cs, ss) (409, kL2 i a5 a6 a7, [.ref 201, .int (xs (i + Int32.ofInt 2).toNatClampNeg), .int (xs (i + Int32.ofInt 1).toNatClampNeg), .ref 0], ph, cs, ss) := by
  refine .step (ks2 (n := 1) (v := .ref 0) (kcL (e := (2, .aload_n kF1, 0)) rfl) rfl) ?_
  refine karg2 _ (hA 1 (by decide) (by decide)) rfl rfl rfl rfl rfl ?_
  refine karg2 _ (hA 2 (by decide) (by decide)) rfl rfl rfl rfl rfl ?_
  exact .step (ks2 (n := 1) (v := .ref 201) (kcL (e := (2, .aload_n kF3, 0)) rfl) rfl) .rf
theorem kpostT_thing {cs ss : Nat} {z : zPar} {k : Int32} (hk : k = Int32.ofInt 1) (hn : n ≤ 512) (hP : xH xX kK (xLm n) 0 ph) (hR : xRE n z ph) (hA : kAg i L) (hr : ¬ zr_thg z (xs (i + Int32.ofInt 1).toNatClampNeg) (xs (i + Int32.ofInt 2).toNatClampNeg)) : ∃ (x5 x6 x7 : Option Value) (ph2 : pm_H), xRI (n + 1) ph2 ∧ pm_Se (kK2 xs L) false (pm_Rd kK false 600) 0 (412, kL2 i a5 a6 a7, [.int k], ph, cs, ss) (23, kL2 (i + Int32.ofInt 5) x5 x6 x7, [], ph2, cs, ss) := by
  subst hk
  obtain ⟨f, e1⟩ := xat170 hP
  obtain ⟨x, ph2, r2, h2, h3, h4, h5⟩ := xmR_thg (x := (xs (i + Int32.ofInt 1).toNatClampNeg)) (y := (xs (i + Int32.ofInt 2).toNatClampNeg)) hn hP hR
  have h6 : zc ph2 170 0 = some (.int (Int32.ofInt 1)) := by
    rcases h5 with ⟨g, -⟩ | ⟨-, g⟩
    · exact absurd g hr
    · exact g
  obtain ⟨f2, e2⟩ := xat170 h2
  refine ⟨some (.int (Int32.ofInt 1)), some (.int x), a7, ph2, ⟨h2, z, h3⟩, ?_⟩
  refine .step (ks3 (n := 2) (L' := kL2 i (some (.int (Int32.ofInt 1))) a6 a7) (st' := []) (kcL (e := (3, .istore 5, 0)) rfl) rfl) ?_
  refine .step (ks2 (n := 1) (v := .ref 170) (kcL (e := (2, .aload_n kF2, 0)) rfl) rfl) ?_
  refine karg2 _ (hA 1 (by decide) (by decide)) rfl rfl rfl rfl rfl ?_
  refine karg2 _ (hA 2 (by decide) (by decide)) rfl rfl rfl rfl rfl ?_
  refine .call (j := 236) (as := [.ref 170, .int (xs (i + Int32.ofInt 1).toNatClampNeg), .int (xs (i + Int32.ofInt 2).toNatClampNeg)]) (ks6 (r0 := []) (kcL (e := (6, .invokevirtual 65, 0)) rfl) (xinvV (j := 236) (n := 2) (ci := 13) rfl rfl e1 rfl rfl)) r2 ?_
  refine .step (ks3 (n := 2) (L' := kL2 i (some (.int (Int32.ofInt 1))) (some (.int x)) a7) (st' := []) (kcL (e := (3, .istore 6, 0)) rfl) rfl) ?_
  refine .step (ks2 (n := 1) (v := .ref 170) (kcL (e := (2, .aload_n kF2, 0)) rfl) rfl) ?_
  refine .call (j := 331) (as := [.ref 170]) (ks6 (r0 := []) (kcL (e := (6, .invokevirtual 66, 0)) rfl) (xinvV (j := 331) (n := 0) (ci := 13) rfl rfl e2 rfl rfl)) (kthr (D := 599) e2 h6) ?_
  refine .step (ks2 (n := 2) (v := .int (Int32.ofInt 1)) (kcL (e := (2, .iload 5, 0)) rfl) rfl) ?_
  refine .step (ks4 (pc' := 443) (st' := []) (kcL (e := (4, .if_icmp .eq 5, 443)) rfl) kbe) ?_
  refine .step (ks2 (n := 2) (v := .int (Int32.ofInt 1)) (kcL (e := (2, .iload 5, 0)) rfl) rfl) ?_
  exact .step (ks4 (pc' := 460) (st' := []) (kcL (e := (4, .ifCond .ne 15, 460)) rfl) (kne (by decide))) (.step (ks4 (pc' := 1476) (st' := []) (kcL (e := (4, .goto 1016, 1476)) rfl) rfl) kend)
theorem kpostN_thing {cs ss : Nat} {z : zPar} (hn : n ≤ 512) (hP : xH xX kK (xLm n) 0 ph) (hR : xRE n z ph) (hA : kAg i L) (hr : zr_thg z (xs (i + Int32.ofInt 1).toNatClampNeg) (xs (i + Int32.ofInt 2).toNatClampNeg)) (hz : zc ph 201 0 = some (.long (zfc_thg z (xs (i + Int32.ofInt 1).toNatClampNeg) (xs (i + Int32.ofInt 2).toNatClampNeg)).toInt64)) : ∃ (x5 x6 x7 : Option Value) (ph2 : pm_H), xRI (n + 1) ph2 ∧ pm_Se (kK2 xs L) false (pm_Rd kK false 600) 0 (412, kL2 i a5 a6 a7, [.int (Int32.ofInt 0)], ph, cs, ss) (23, kL2 (i + Int32.ofInt 5) x5 x6 x7, [], ph2, cs, ss) := by
  obtain ⟨f, e1⟩ := xat170 hP
  obtain ⟨x, ph2, r2, h2, h3, h4, h5⟩ := xmR_thg (x := (xs (i + Int32.ofInt 1).toNatClampNeg)) (y := (xs (i + Int32.ofInt 2).toNatClampNeg)) hn hP hR
  obtain ⟨h6, hx⟩ : zc ph2 170 0 = some (.int (Int32.ofInt 0)) ∧ x = zfc_thg z (xs (i + Int32.ofInt 1).toNatClampNeg) (xs (i + Int32.ofInt 2).toNatClampNeg) := by
    rcases h5 with ⟨-, g⟩ | ⟨g, -⟩
    · exact g
    · exact absurd hr g
  obtain ⟨l, hl, hl0⟩ := kzout h2 (h4.trans hz)
  obtain ⟨f2, e2⟩ := xat170 h2
  refine ⟨some (.int (Int32.ofInt 0)), some (.int x), a7, ph2, ⟨h2, z, h3⟩, ?_⟩
  refine .step (ks3 (n := 2) (L' := kL2 i (some (.int (Int32.ofInt 0))) a6 a7) (st' := []) (kcL (e := (3, .istore 5, 0)) rfl) rfl) ?_
  refine .step (ks2 (n := 1) (v := .ref 170) (kcL (e := (2, .aload_n kF2, 0)) rfl) rfl) ?_
  refine karg2 _ (hA 1 (by decide) (by decide)) rfl rfl rfl rfl rfl ?_
  refine karg2 _ (hA 2 (by decide) (by decide)) rfl rfl rfl rfl rfl ?_
  refine .call (j := 236) (as := [.ref 170, .int (xs (i + Int32.ofInt 1).toNatClampNeg), .int (xs (i + Int32.ofInt 2).toNatClampNeg)]) (ks6 (r0 := []) (kcL (e := (6, .invokevirtual 65, 0)) rfl) (xinvV (j := 236) (n := 2) (ci := 13) rfl rfl e1 rfl rfl)) r2 ?_
  refine .step (ks3 (n := 2) (L' := kL2 i (some (.int (Int32.ofInt 0))) (some (.int x)) a7) (st' := []) (kcL (e := (3, .istore 6, 0)) rfl) rfl) ?_
  refine .step (ks2 (n := 1) (v := .ref 170) (kcL (e := (2, .aload_n kF2, 0)) rfl) rfl) ?_
  refine .call (j := 331) (as := [.ref 170]) (ks6 (r0 := []) (kcL (e := (6, .invokevirtual 66, 0)) rfl) (xinvV (j := 331) (n := 0) (ci := 13) rfl rfl e2 rfl rfl)) (kthr (D := 599) e2 h6) ?_
  refine .step (ks2 (n := 2) (v := .int (Int32.ofInt 0)) (kcL (e := (2, .iload 5, 0)) rfl) rfl) ?_
  refine .step (ks4 (pc' := 443) (st' := []) (kcL (e := (4, .if_icmp .eq 5, 443)) rfl) kbe) ?_
  refine .step (ks2 (n := 2) (v := .int (Int32.ofInt 0)) (kcL (e := (2, .iload 5, 0)) rfl) rfl) ?_
  refine .step (ks4 (pc' := 448) (st' := []) (kcL (e := (4, .ifCond .ne 15, 460)) rfl) knz) ?_
  refine .step (ks2 (n := 1) (v := .ref 201) (kcL (e := (2, .aload_n kF3, 0)) rfl) rfl) ?_
  refine .step (ks0 (st' := [.int (Int32.ofInt 0), .ref 201]) (kcL (e := (0, .iconst 0, 0)) rfl) rfl) ?_
  refine .step (klal (kcL (e := (5, .laload, 0)) rfl) hl hl0) ?_
  refine .step (ks2 (n := 2) (v := .int x) (kcL (e := (2, .iload 6, 0)) rfl) rfl) ?_
  refine .step (ks0 (st' := [.long x.toInt64, .long (zfc_thg z (xs (i + Int32.ofInt 1).toNatClampNeg) (xs (i + Int32.ofInt 2).toNatClampNeg)).toInt64]) (kcL (e := (0, .i2l, 0)) rfl) rfl) ?_
  rw [← hx]
  refine .step (ks0 (st' := [.int (lg_cmp x.toInt64 x.toInt64)]) (kcL (e := (0, .lcmp, 0)) rfl) rfl) ?_
  exact .step (ks4 (pc' := 460) (st' := []) (kcL (e := (4, .ifCond .eq 5, 460)) rfl) kbl) (.step (ks4 (pc' := 1476) (st' := []) (kcL (e := (4, .goto 1016, 1476)) rfl) rfl) kend)
theorem kcase_thing (hl : l.stackTraces = false) (F : kFx p s m meth c b L xs D dA ra) (Z : kTs s.heap.size s s.heap) (hc : cs ≤ 600524) (hs : ss ≤ 7292534) (hn : n ≤ 512) (hI : xRI n ph) (hA : kAg i L) (kk : ∀ (x5 x6 x7 : Option Value) (ph2 : pm_H), xRI (n + 1) ph2 → kW p l e s m below meth c b D dA ra false Q (23, kL2 (i + Int32.ofInt 5) x5 x6 x7, [], ph2, cs + 1, ss + 6)) : kW p l e s m below meth c b D dA ra false Q (395, kL2 i a5 a6 a7, [], ph, cs, ss) := by
  refine kW_se F (by decide) (kpre_thing hA) (show cs ≤ 601024 by omega) (show ss ≤ 7293034 by omega) ?_
  have fin : ∀ (k : Int32) (ph1 : pm_H), (∃ (x5 x6 x7 : Option Value) (ph2 : pm_H), xRI (n + 1) ph2 ∧ pm_Se (kK2 xs L) false (pm_Rd kK false 600) 0 (412, kL2 i a5 a6 a7, [.int k], ph1, cs + 1, ss + 6) (23, kL2 (i + Int32.ofInt 5) x5 x6 x7, [], ph2, cs + 1, ss + 6)) → kW p l e s m below meth c b D dA ra false Q (412, kL2 i a5 a6 a7, [.int k], ph1, cs + 1, ss + 6) := fun k ph1 ⟨x5, x6, x7, ph2, h2, h3⟩ => kW_se F (by decide) h3 (show cs + 1 ≤ 601024 by omega) (show ss + 6 ≤ 7293034 by omega) (kk x5 x6 x7 ph2 h2)
  have hat := xat0 hI.1
  obtain ⟨fs, hat⟩ := hat
  obtain ⟨hP, z9, hz9⟩ := hI
  rcases xcR_thg hn (p := (xs (i + Int32.ofInt 1).toNatClampNeg)) (y := (xs (i + Int32.ofInt 2).toNatClampNeg)) hP hz9 with ⟨r, ph1, h1, h2, h3, h4, h5⟩ | ⟨pc9, hpc, hn9, h4⟩
  · obtain ⟨l1, g1, g2, g3, g4, g5⟩ := xRE_out (y := r.toInt64) h2 h3
    have hM := knorm (D := D) (dA := dA) (B := s.heap.size) (ra := ra) (hh := [(0, 10, 13, 13)]) l (y := (⟨"BonnetValleyLaw", "thing", "(LBonnetValley;II[J)I"⟩ : MethodName)) (as := [.ref 0, .int (xs (i + Int32.ofInt 1).toNatClampNeg), .int (xs (i + Int32.ofInt 2).toNatClampNeg), .ref 201]) rfl rfl kRo_thing rfl (kRr_thing (m := 0) (w := 0) hat h1 g1 g2) (by decide +kernel)
    exact kW_help (ix := 63) (n := 4) (as := [.ref 0, .int (xs (i + Int32.ofInt 1).toNatClampNeg), .int (xs (i + Int32.ofInt 2).toNatClampNeg), .ref 201]) (r := []) F Z hM rfl (by decide) (by decide +kernel) (kvin_ok (by decide +kernel)) (kvin_ok (by decide +kernel)) (kvin_ok (by decide +kernel)) (kvin_ok (by decide +kernel)) (by decide +kernel) (by decide) (by decide) (by omega) (by omega) (fin _ _ (kpostN_thing hn g3 g4 hA h4 (by rw [← h5]; exact g5)))
  · obtain ⟨n9, hn9⟩ := hn9
    rcases hpc with rfl | rfl
    · have hx := kthrow (D := D) (dA := dA) (B := s.heap.size) (ra := ra) l hl (d := 500) (mj := 130) (as := [.ref 0, .int (xs (i + Int32.ofInt 1).toNatClampNeg), .int (xs (i + Int32.ofInt 2).toNatClampNeg)]) (Qc := va_Qi (S := Unit) (fun _ _ => False) (fun _ _ => True) (fun q => s.heap.size ≤ q)) rfl hn9 (by decide) ⟨_, rfl⟩ (by decide +kernel) (knpT (kc := kc_130) (fun _ => rfl) knp_130) (by decide +kernel) (by decide +kernel) (by decide +kernel) (by decide +kernel)
      have hM := khelp2 (ph := ph) l (y := (⟨"BonnetValleyLaw", "thing", "(LBonnetValley;II[J)I"⟩ : MethodName)) (bytes := method_4_code) (ix := 15) (jx := 130) (d := 501) hat (by decide +kernel) rfl (by decide) (by decide +kernel) (by decide +kernel) (by decide +kernel) (by decide +kernel) (by decide +kernel) (by decide +kernel) (by decide +kernel) (by decide +kernel) (by decide +kernel) ⟨_, rfl⟩ (by decide +kernel) (kvin_ok (by decide +kernel)) (kvin_ok (by decide +kernel)) (kvin_ok (by decide +kernel)) (by decide +kernel) hx
      exact kW_help (ix := 63) (n := 4) (as := [.ref 0, .int (xs (i + Int32.ofInt 1).toNatClampNeg), .int (xs (i + Int32.ofInt 2).toNatClampNeg), .ref 201]) (r := []) F Z hM rfl (by decide) (by decide +kernel) (kvin_ok (by decide +kernel)) (kvin_ok (by decide +kernel)) (kvin_ok (by decide +kernel)) (kvin_ok (by decide +kernel)) (by decide +kernel) (by decide) (by decide) (by omega) (by omega) (fin _ _ (kpostT_thing (by decide) hn hP hz9 hA h4))
    · have hx := kthrow (D := D) (dA := dA) (B := s.heap.size) (ra := ra) l hl (d := 500) (mj := 130) (as := [.ref 0, .int (xs (i + Int32.ofInt 1).toNatClampNeg), .int (xs (i + Int32.ofInt 2).toNatClampNeg)]) (Qc := va_Qi (S := Unit) (fun _ _ => False) (fun _ _ => True) (fun q => s.heap.size ≤ q)) rfl hn9 (by decide) ⟨_, rfl⟩ (by decide +kernel) (knpT (kc := kc_130) (fun _ => rfl) knp_130) (by decide +kernel) (by decide +kernel) (by decide +kernel) (by decide +kernel)
      have hM := khelp2 (ph := ph) l (y := (⟨"BonnetValleyLaw", "thing", "(LBonnetValley;II[J)I"⟩ : MethodName)) (bytes := method_4_code) (ix := 15) (jx := 130) (d := 501) hat (by decide +kernel) rfl (by decide) (by decide +kernel) (by decide +kernel) (by decide +kernel) (by decide +kernel) (by decide +kernel) (by decide +kernel) (by decide +kernel) (by decide +kernel) (by decide +kernel) ⟨_, rfl⟩ (by decide +kernel) (kvin_ok (by decide +kernel)) (kvin_ok (by decide +kernel)) (kvin_ok (by decide +kernel)) (by decide +kernel) hx
      exact kW_help (ix := 63) (n := 4) (as := [.ref 0, .int (xs (i + Int32.ofInt 1).toNatClampNeg), .int (xs (i + Int32.ofInt 2).toNatClampNeg), .ref 201]) (r := []) F Z hM rfl (by decide) (by decide +kernel) (kvin_ok (by decide +kernel)) (kvin_ok (by decide +kernel)) (kvin_ok (by decide +kernel)) (kvin_ok (by decide +kernel)) (by decide +kernel) (by decide) (by decide) (by omega) (by omega) (fin _ _ (kpostT_thing (by decide) hn hP hz9 hA h4))
theorem knp_180 : ∀ c ∈ kc_180, ∀ q ∈ c, pm_npf q.2.2.1 = true ∧ Nat.beq q.2.1 8 = false := by decide +kernel
theorem kpre_row {cs ss : Nat} (hA : kAg i L) : pm_Se (kK2 xs L) false (pm_Rd kK false 600) 0 (1448, kL2 i a5 a6 a7, [], ph, cs, ss) (1456, kL2 i a5 a6 a7, [.ref 201, .int (xs (i + Int32.ofInt 1).toNatClampNeg), .ref 0], ph, cs, ss) := by
  refine .step (ks2 (n := 1) (v := .ref 0) (kcL (e := (2, .aload_n kF1, 0)) rfl) rfl) ?_
  refine karg2 _ (hA 1 (by decide) (by decide)) rfl rfl rfl rfl rfl ?_
  exact .step (ks2 (n := 1) (v := .ref 201) (kcL (e := (2, .aload_n kF3, 0)) rfl) rfl) .rf
theorem kpost_row {cs ss : Nat} {k : Int32} (hn : n ≤ 512) (hI : xRI n ph) (hA : kAg i L) : ∃ (x5 x6 x7 : Option Value) (ph2 : pm_H), xRI (n + 1) ph2 ∧ pm_Se (kK2 xs L) false (pm_Rd kK false 600) 0 (1459, kL2 i a5 a6 a7, [.int k], ph, cs, ss) (23, kL2 (i + Int32.ofInt 5) x5 x6 x7, [], ph2, cs, ss) := by
  obtain ⟨f, e1⟩ := xat170 hI.1
  obtain ⟨z9, hz9⟩ := hI.2
  obtain ⟨v, ph2, r2, ⟨x, rfl⟩, hI21, hI22⟩ := xrm_row n hn z9 ph hI.1 hz9
  have hI2 : xRI (n + 1) ph2 := ⟨hI21, z9, hI22⟩
  refine ⟨some (.int k), some (.long x), none, ph2, hI2, ?_⟩
  refine .step (ks3 (n := 2) (L' := kL2 i (some (.int k)) a6 a7) (st' := []) (kcL (e := (3, .istore 5, 0)) rfl) rfl) ?_
  refine .step (ks2 (n := 1) (v := .ref 170) (kcL (e := (2, .aload_n kF2, 0)) rfl) rfl) ?_
  refine karg2 _ (hA 1 (by decide) (by decide)) rfl rfl rfl rfl rfl ?_
  refine .call (j := 299) (as := [.ref 170, .int (xs (i + Int32.ofInt 1).toNatClampNeg)]) (ks6 (r0 := []) (kcL (e := (6, .invokevirtual 223, 0)) rfl) (xinvV (j := 299) (n := 1) (ci := 13) rfl rfl e1 rfl rfl)) r2 ?_
  refine .step (ks3 (n := 2) (L' := kL2 i (some (.int k)) (some (.long x)) none) (st' := []) (kcL (e := (3, .lstore 6, 0)) rfl) rfl) ?_
  exact .step (ks4 (pc' := 1476) (st' := []) (kcL (e := (4, .goto 3, 1476)) rfl) rfl) kend
theorem kcase_row (hl : l.stackTraces = false) (F : kFx p s m meth c b L xs D dA ra) (Z : kTs s.heap.size s s.heap) (hc : cs ≤ 600524) (hs : ss ≤ 7292534) (hn : n ≤ 512) (hI : xRI n ph) (hA : kAg i L) (kk : ∀ (x5 x6 x7 : Option Value) (ph2 : pm_H), xRI (n + 1) ph2 → kW p l e s m below meth c b D dA ra false Q (23, kL2 (i + Int32.ofInt 5) x5 x6 x7, [], ph2, cs + 1, ss + 6)) : kW p l e s m below meth c b D dA ra false Q (1448, kL2 i a5 a6 a7, [], ph, cs, ss) := by
  refine kW_se F (by decide) (kpre_row hA) (show cs ≤ 601024 by omega) (show ss ≤ 7293034 by omega) ?_
  have fin : ∀ (k : Int32) (ph1 : pm_H), xRI n ph1 → kW p l e s m below meth c b D dA ra false Q (1459, kL2 i a5 a6 a7, [.int k], ph1, cs + 1, ss + 6) := fun k ph1 h1 => by
    obtain ⟨x5, x6, x7, ph2, h2, h3⟩ := kpost_row (a5 := a5) (a6 := a6) (a7 := a7) (cs := cs + 1) (ss := ss + 6) (k := k) (xs := xs) hn h1 hA
    exact kW_se F (by decide) h3 (show cs + 1 ≤ 601024 by omega) (show ss + 6 ≤ 7293034 by omega) (kk x5 x6 x7 ph2 h2)
  have hat := xat0 hI.1
  obtain ⟨fs, hat⟩ := hat
  obtain ⟨z9, hz9⟩ := hI.2
  rcases xcl_row (xEq_G (n := n) (z := z9) (ph := ph)) (xLm_le (by omega)) xLm_0 (D := 500) (by decide) (p := (xs (i + Int32.ofInt 1).toNatClampNeg)) hI.1 (xEq_0 hI.1 hz9) with ⟨r, ph1, h1, h2, h3⟩ | HT
  · obtain ⟨l1, g1, g2, g3⟩ := xRI_out (n := n) (y := r) ⟨h2, z9, xEq_R hI.1 h2 hz9 h3⟩
    have hM := knorm (D := D) (dA := dA) (B := s.heap.size) (ra := ra) (hh := [(0, 8, 11, 13)]) l (y := (⟨"BonnetValleyLaw", "row", "(LBonnetValley;I[J)I"⟩ : MethodName)) (as := [.ref 0, .int (xs (i + Int32.ofInt 1).toNatClampNeg), .ref 201]) rfl rfl kRo_row rfl (kRr_row (m := 0) (w := 0) hat h1 g1 g2) (by decide +kernel)
    exact kW_help (ix := 220) (n := 3) (as := [.ref 0, .int (xs (i + Int32.ofInt 1).toNatClampNeg), .ref 201]) (r := []) F Z hM rfl (by decide) (by decide +kernel) (kvin_ok (by decide +kernel)) (kvin_ok (by decide +kernel)) (kvin_ok (by decide +kernel)) (kvin_ok (by decide +kernel)) (by decide +kernel) (by decide) (by decide) (by omega) (by omega) (fin _ _ g3)
  · obtain ⟨n9, hn9⟩ := HT
    have hx := kthrow (D := D) (dA := dA) (B := s.heap.size) (ra := ra) l hl (d := 500) (mj := 180) (as := [.ref 0, .int (xs (i + Int32.ofInt 1).toNatClampNeg)]) (Qc := va_Ql (S := Unit) (fun _ _ => False) (fun _ _ => True) (fun q => s.heap.size ≤ q)) rfl hn9 (by decide) ⟨_, rfl⟩ (by decide +kernel) (knpT (kc := kc_180) (fun _ => rfl) knp_180) (by decide +kernel) (by decide +kernel) (by decide +kernel) (by decide +kernel)
    have hM := khelp1 (ph := ph) l (y := (⟨"BonnetValleyLaw", "row", "(LBonnetValley;I[J)I"⟩ : MethodName)) (bytes := method_5_code) (ix := 18) (jx := 180) (d := 501) hat (by decide +kernel) rfl (by decide) (by decide +kernel) (by decide +kernel) (by decide +kernel) (by decide +kernel) (by decide +kernel) (by decide +kernel) (by decide +kernel) (by decide +kernel) ⟨_, rfl⟩ (by decide +kernel) (kvin_ok (by decide +kernel)) (kvin_ok (by decide +kernel)) (kvin_ok (by decide +kernel)) (by decide +kernel) hx
    exact kW_help (ix := 220) (n := 3) (as := [.ref 0, .int (xs (i + Int32.ofInt 1).toNatClampNeg), .ref 201]) (r := []) F Z hM rfl (by decide) (by decide +kernel) (kvin_ok (by decide +kernel)) (kvin_ok (by decide +kernel)) (kvin_ok (by decide +kernel)) (kvin_ok (by decide +kernel)) (by decide +kernel) (by decide) (by decide) (by omega) (by omega) (fin _ _ hI)
end KT4
