/-! The law's frame, call by call, printed by wip/x/claw.py -/
theorem kbe {o : Int} {aux pc : Nat} {r : Int32} {q : List Value} : pm_br (.if_icmp .eq o) aux pc (.int r :: .int r :: q) = some (aux, q) := by
  have e : decide (r = r) = true := decide_eq_true rfl
  show some (bif decide (r = r) then aux else pc + 3, q) = _
  rw [e]
  rfl
def kAg (i : Int32) (N : Nat) : Prop := ∀ z : Int, 0 ≤ z → z ≤ 4 → pm_inb (i + Int32.ofInt z) N = true
section KCS
variable {xs : Nat → Int32} {N n : Nat} {i : Int32} {a b d : Option Value} {ph : pm_H} {c s : Nat}
theorem kend : pm_Se (kK2 xs N) false (pm_Rd kK false 600) 0 (1448, kL2 i a b d, [], ph, c, s) (23, kL2 (i + Int32.ofInt 5) a b d, [], ph, c, s) := by
  refine .step (ks3 (n := 3) (L' := kL2 (i + Int32.ofInt 5) a b d) (st' := []) (kcL (e := (3, .iinc 4 5, 0)) rfl) rfl) ?_
  exact .step (ks4 (pc' := 23) (st' := []) (kcL (e := (4, .goto (-1428), 23)) rfl) rfl) .rf
theorem kca_0 (H : xRs 122 193 [.int (xs (i + Int32.ofInt 1).toNatClampNeg)] (fun a b => kI a ∧ kI b)) (hn : n ≤ 512) (hI : xRI n ph) (hA : kAg i N) : ∃ ph2, xRI (n + 1) ph2 ∧ pm_Se (kK2 xs N) false (pm_Rd kK false 600) 0 (240, kL2 i a b d, [], ph, c, s) (23, kL2 (i + Int32.ofInt 5) a b d, [], ph2, c, s) := by
  obtain ⟨v1, v2, ph1, ph2, ⟨⟨f1, e1⟩, f2, e2⟩, r1, r2, ⟨⟨x, rfl⟩, y, rfl⟩, hI2⟩ := H n hn ph hI
  refine ⟨ph2, hI2, ?_⟩
  refine .step (ks2 (n := 1) (v := .ref 0) (kcL (e := (2, .aload_n kF1, 0)) rfl) rfl) ?_
  refine karg2 _ (hA 1 (by decide) (by decide)) rfl rfl rfl rfl rfl ?_
  refine .call (j := 122) (as := [.ref 0, .int (xs (i + Int32.ofInt 1).toNatClampNeg)]) (ks6 (r0 := []) (kcL (e := (6, .invokevirtual 26, 0)) rfl) (xinvV (j := 122) (n := 1) (ci := 12) rfl rfl e1 rfl rfl)) r1 ?_
  refine .step (ks0 (st' := []) (kcL (e := (0, .pop, 0)) rfl) rfl) ?_
  refine .step (ks2 (n := 1) (v := .ref 170) (kcL (e := (2, .aload_n kF2, 0)) rfl) rfl) ?_
  refine karg2 _ (hA 1 (by decide) (by decide)) rfl rfl rfl rfl rfl ?_
  refine .call (j := 193) (as := [.ref 170, .int (xs (i + Int32.ofInt 1).toNatClampNeg)]) (ks6 (r0 := []) (kcL (e := (6, .invokevirtual 30, 0)) rfl) (xinvV (j := 193) (n := 1) (ci := 13) rfl rfl e2 rfl rfl)) r2 ?_
  refine .step (ks0 (st' := []) (kcL (e := (0, .pop, 0)) rfl) rfl) ?_
  exact .step (ks4 (pc' := 1448) (st' := []) (kcL (e := (4, .goto 1186, 1448)) rfl) rfl) kend
theorem kca_1 (H : xRs 123 194 [.int (xs (i + Int32.ofInt 1).toNatClampNeg)] (fun a b => kI a ∧ kI b)) (hn : n ≤ 512) (hI : xRI n ph) (hA : kAg i N) : ∃ ph2, xRI (n + 1) ph2 ∧ pm_Se (kK2 xs N) false (pm_Rd kK false 600) 0 (265, kL2 i a b d, [], ph, c, s) (23, kL2 (i + Int32.ofInt 5) a b d, [], ph2, c, s) := by
  obtain ⟨v1, v2, ph1, ph2, ⟨⟨f1, e1⟩, f2, e2⟩, r1, r2, ⟨⟨x, rfl⟩, y, rfl⟩, hI2⟩ := H n hn ph hI
  refine ⟨ph2, hI2, ?_⟩
  refine .step (ks2 (n := 1) (v := .ref 0) (kcL (e := (2, .aload_n kF1, 0)) rfl) rfl) ?_
  refine karg2 _ (hA 1 (by decide) (by decide)) rfl rfl rfl rfl rfl ?_
  refine .call (j := 123) (as := [.ref 0, .int (xs (i + Int32.ofInt 1).toNatClampNeg)]) (ks6 (r0 := []) (kcL (e := (6, .invokevirtual 31, 0)) rfl) (xinvV (j := 123) (n := 1) (ci := 12) rfl rfl e1 rfl rfl)) r1 ?_
  refine .step (ks0 (st' := []) (kcL (e := (0, .pop, 0)) rfl) rfl) ?_
  refine .step (ks2 (n := 1) (v := .ref 170) (kcL (e := (2, .aload_n kF2, 0)) rfl) rfl) ?_
  refine karg2 _ (hA 1 (by decide) (by decide)) rfl rfl rfl rfl rfl ?_
  refine .call (j := 194) (as := [.ref 170, .int (xs (i + Int32.ofInt 1).toNatClampNeg)]) (ks6 (r0 := []) (kcL (e := (6, .invokevirtual 35, 0)) rfl) (xinvV (j := 194) (n := 1) (ci := 13) rfl rfl e2 rfl rfl)) r2 ?_
  refine .step (ks0 (st' := []) (kcL (e := (0, .pop, 0)) rfl) rfl) ?_
  exact .step (ks4 (pc' := 1448) (st' := []) (kcL (e := (4, .goto 1161, 1448)) rfl) rfl) kend
theorem kca_2 (H : xRs 124 202 [] (fun a b => kI a ∧ kI b)) (hn : n ≤ 512) (hI : xRI n ph) (hA : kAg i N) : ∃ ph2, xRI (n + 1) ph2 ∧ pm_Se (kK2 xs N) false (pm_Rd kK false 600) 0 (290, kL2 i a b d, [], ph, c, s) (23, kL2 (i + Int32.ofInt 5) a b d, [], ph2, c, s) := by
  obtain ⟨v1, v2, ph1, ph2, ⟨⟨f1, e1⟩, f2, e2⟩, r1, r2, ⟨⟨x, rfl⟩, y, rfl⟩, hI2⟩ := H n hn ph hI
  refine ⟨ph2, hI2, ?_⟩
  refine .step (ks2 (n := 1) (v := .ref 0) (kcL (e := (2, .aload_n kF1, 0)) rfl) rfl) ?_
  refine .call (j := 124) (as := [.ref 0]) (ks6 (r0 := []) (kcL (e := (6, .invokevirtual 36, 0)) rfl) (xinvV (j := 124) (n := 0) (ci := 12) rfl rfl e1 rfl rfl)) r1 ?_
  refine .step (ks0 (st' := []) (kcL (e := (0, .pop, 0)) rfl) rfl) ?_
  refine .step (ks2 (n := 1) (v := .ref 170) (kcL (e := (2, .aload_n kF2, 0)) rfl) rfl) ?_
  refine .call (j := 202) (as := [.ref 170]) (ks6 (r0 := []) (kcL (e := (6, .invokevirtual 40, 0)) rfl) (xinvV (j := 202) (n := 0) (ci := 13) rfl rfl e2 rfl rfl)) r2 ?_
  refine .step (ks0 (st' := []) (kcL (e := (0, .pop, 0)) rfl) rfl) ?_
  exact .step (ks4 (pc' := 1448) (st' := []) (kcL (e := (4, .goto 1148, 1448)) rfl) rfl) kend
theorem kca_3 (H : xRs 125 208 [] (fun a b => kI a ∧ kI b)) (hn : n ≤ 512) (hI : xRI n ph) (hA : kAg i N) : ∃ ph2, xRI (n + 1) ph2 ∧ pm_Se (kK2 xs N) false (pm_Rd kK false 600) 0 (303, kL2 i a b d, [], ph, c, s) (23, kL2 (i + Int32.ofInt 5) a b d, [], ph2, c, s) := by
  obtain ⟨v1, v2, ph1, ph2, ⟨⟨f1, e1⟩, f2, e2⟩, r1, r2, ⟨⟨x, rfl⟩, y, rfl⟩, hI2⟩ := H n hn ph hI
  refine ⟨ph2, hI2, ?_⟩
  refine .step (ks2 (n := 1) (v := .ref 0) (kcL (e := (2, .aload_n kF1, 0)) rfl) rfl) ?_
  refine .call (j := 125) (as := [.ref 0]) (ks6 (r0 := []) (kcL (e := (6, .invokevirtual 41, 0)) rfl) (xinvV (j := 125) (n := 0) (ci := 12) rfl rfl e1 rfl rfl)) r1 ?_
  refine .step (ks0 (st' := []) (kcL (e := (0, .pop, 0)) rfl) rfl) ?_
  refine .step (ks2 (n := 1) (v := .ref 170) (kcL (e := (2, .aload_n kF2, 0)) rfl) rfl) ?_
  refine .call (j := 208) (as := [.ref 170]) (ks6 (r0 := []) (kcL (e := (6, .invokevirtual 44, 0)) rfl) (xinvV (j := 208) (n := 0) (ci := 13) rfl rfl e2 rfl rfl)) r2 ?_
  refine .step (ks0 (st' := []) (kcL (e := (0, .pop, 0)) rfl) rfl) ?_
  exact .step (ks4 (pc' := 1448) (st' := []) (kcL (e := (4, .goto 1135, 1448)) rfl) rfl) kend
theorem kca_4 (H : xRs 126 209 [] (fun a b => kI a ∧ kI b)) (hn : n ≤ 512) (hI : xRI n ph) (hA : kAg i N) : ∃ ph2, xRI (n + 1) ph2 ∧ pm_Se (kK2 xs N) false (pm_Rd kK false 600) 0 (316, kL2 i a b d, [], ph, c, s) (23, kL2 (i + Int32.ofInt 5) a b d, [], ph2, c, s) := by
  obtain ⟨v1, v2, ph1, ph2, ⟨⟨f1, e1⟩, f2, e2⟩, r1, r2, ⟨⟨x, rfl⟩, y, rfl⟩, hI2⟩ := H n hn ph hI
  refine ⟨ph2, hI2, ?_⟩
  refine .step (ks2 (n := 1) (v := .ref 0) (kcL (e := (2, .aload_n kF1, 0)) rfl) rfl) ?_
  refine .call (j := 126) (as := [.ref 0]) (ks6 (r0 := []) (kcL (e := (6, .invokevirtual 45, 0)) rfl) (xinvV (j := 126) (n := 0) (ci := 12) rfl rfl e1 rfl rfl)) r1 ?_
  refine .step (ks0 (st' := []) (kcL (e := (0, .pop, 0)) rfl) rfl) ?_
  refine .step (ks2 (n := 1) (v := .ref 170) (kcL (e := (2, .aload_n kF2, 0)) rfl) rfl) ?_
  refine .call (j := 209) (as := [.ref 170]) (ks6 (r0 := []) (kcL (e := (6, .invokevirtual 48, 0)) rfl) (xinvV (j := 209) (n := 0) (ci := 13) rfl rfl e2 rfl rfl)) r2 ?_
  refine .step (ks0 (st' := []) (kcL (e := (0, .pop, 0)) rfl) rfl) ?_
  exact .step (ks4 (pc' := 1448) (st' := []) (kcL (e := (4, .goto 1122, 1448)) rfl) rfl) kend
theorem kca_5 (H : xRs 127 210 [] (fun a b => kI a ∧ kI b)) (hn : n ≤ 512) (hI : xRI n ph) (hA : kAg i N) : ∃ ph2, xRI (n + 1) ph2 ∧ pm_Se (kK2 xs N) false (pm_Rd kK false 600) 0 (329, kL2 i a b d, [], ph, c, s) (23, kL2 (i + Int32.ofInt 5) a b d, [], ph2, c, s) := by
  obtain ⟨v1, v2, ph1, ph2, ⟨⟨f1, e1⟩, f2, e2⟩, r1, r2, ⟨⟨x, rfl⟩, y, rfl⟩, hI2⟩ := H n hn ph hI
  refine ⟨ph2, hI2, ?_⟩
  refine .step (ks2 (n := 1) (v := .ref 0) (kcL (e := (2, .aload_n kF1, 0)) rfl) rfl) ?_
  refine .call (j := 127) (as := [.ref 0]) (ks6 (r0 := []) (kcL (e := (6, .invokevirtual 49, 0)) rfl) (xinvV (j := 127) (n := 0) (ci := 12) rfl rfl e1 rfl rfl)) r1 ?_
  refine .step (ks0 (st' := []) (kcL (e := (0, .pop, 0)) rfl) rfl) ?_
  refine .step (ks2 (n := 1) (v := .ref 170) (kcL (e := (2, .aload_n kF2, 0)) rfl) rfl) ?_
  refine .call (j := 210) (as := [.ref 170]) (ks6 (r0 := []) (kcL (e := (6, .invokevirtual 52, 0)) rfl) (xinvV (j := 210) (n := 0) (ci := 13) rfl rfl e2 rfl rfl)) r2 ?_
  refine .step (ks0 (st' := []) (kcL (e := (0, .pop, 0)) rfl) rfl) ?_
  exact .step (ks4 (pc' := 1448) (st' := []) (kcL (e := (4, .goto 1109, 1448)) rfl) rfl) kend
theorem kca_6 (H : xRs 128 217 [] (fun a b => kI a ∧ kI b)) (hn : n ≤ 512) (hI : xRI n ph) (hA : kAg i N) : ∃ ph2, xRI (n + 1) ph2 ∧ pm_Se (kK2 xs N) false (pm_Rd kK false 600) 0 (342, kL2 i a b d, [], ph, c, s) (23, kL2 (i + Int32.ofInt 5) a b d, [], ph2, c, s) := by
  obtain ⟨v1, v2, ph1, ph2, ⟨⟨f1, e1⟩, f2, e2⟩, r1, r2, ⟨⟨x, rfl⟩, y, rfl⟩, hI2⟩ := H n hn ph hI
  refine ⟨ph2, hI2, ?_⟩
  refine .step (ks2 (n := 1) (v := .ref 0) (kcL (e := (2, .aload_n kF1, 0)) rfl) rfl) ?_
  refine .call (j := 128) (as := [.ref 0]) (ks6 (r0 := []) (kcL (e := (6, .invokevirtual 53, 0)) rfl) (xinvV (j := 128) (n := 0) (ci := 12) rfl rfl e1 rfl rfl)) r1 ?_
  refine .step (ks0 (st' := []) (kcL (e := (0, .pop, 0)) rfl) rfl) ?_
  refine .step (ks2 (n := 1) (v := .ref 170) (kcL (e := (2, .aload_n kF2, 0)) rfl) rfl) ?_
  refine .call (j := 217) (as := [.ref 170]) (ks6 (r0 := []) (kcL (e := (6, .invokevirtual 56, 0)) rfl) (xinvV (j := 217) (n := 0) (ci := 13) rfl rfl e2 rfl rfl)) r2 ?_
  refine .step (ks0 (st' := []) (kcL (e := (0, .pop, 0)) rfl) rfl) ?_
  exact .step (ks4 (pc' := 1448) (st' := []) (kcL (e := (4, .goto 1096, 1448)) rfl) rfl) kend
theorem kca_9 (H : xRs 131 237 [.int (xs (i + Int32.ofInt 1).toNatClampNeg), .int (xs (i + Int32.ofInt 2).toNatClampNeg), .int (xs (i + Int32.ofInt 3).toNatClampNeg), .int (xs (i + Int32.ofInt 4).toNatClampNeg)] (fun a b => kI a ∧ kI b)) (hn : n ≤ 512) (hI : xRI n ph) (hA : kAg i N) : ∃ ph2, xRI (n + 1) ph2 ∧ pm_Se (kK2 xs N) false (pm_Rd kK false 600) 0 (435, kL2 i a b d, [], ph, c, s) (23, kL2 (i + Int32.ofInt 5) a b d, [], ph2, c, s) := by
  obtain ⟨v1, v2, ph1, ph2, ⟨⟨f1, e1⟩, f2, e2⟩, r1, r2, ⟨⟨x, rfl⟩, y, rfl⟩, hI2⟩ := H n hn ph hI
  refine ⟨ph2, hI2, ?_⟩
  refine .step (ks2 (n := 1) (v := .ref 0) (kcL (e := (2, .aload_n kF1, 0)) rfl) rfl) ?_
  refine karg2 _ (hA 1 (by decide) (by decide)) rfl rfl rfl rfl rfl ?_
  refine karg2 _ (hA 2 (by decide) (by decide)) rfl rfl rfl rfl rfl ?_
  refine karg2 _ (hA 3 (by decide) (by decide)) rfl rfl rfl rfl rfl ?_
  refine karg2 _ (hA 4 (by decide) (by decide)) rfl rfl rfl rfl rfl ?_
  refine .call (j := 131) (as := [.ref 0, .int (xs (i + Int32.ofInt 1).toNatClampNeg), .int (xs (i + Int32.ofInt 2).toNatClampNeg), .int (xs (i + Int32.ofInt 3).toNatClampNeg), .int (xs (i + Int32.ofInt 4).toNatClampNeg)]) (ks6 (r0 := []) (kcL (e := (6, .invokevirtual 66, 0)) rfl) (xinvV (j := 131) (n := 4) (ci := 12) rfl rfl e1 rfl rfl)) r1 ?_
  refine .step (ks0 (st' := []) (kcL (e := (0, .pop, 0)) rfl) rfl) ?_
  refine .step (ks2 (n := 1) (v := .ref 170) (kcL (e := (2, .aload_n kF2, 0)) rfl) rfl) ?_
  refine karg2 _ (hA 1 (by decide) (by decide)) rfl rfl rfl rfl rfl ?_
  refine karg2 _ (hA 2 (by decide) (by decide)) rfl rfl rfl rfl rfl ?_
  refine karg2 _ (hA 3 (by decide) (by decide)) rfl rfl rfl rfl rfl ?_
  refine karg2 _ (hA 4 (by decide) (by decide)) rfl rfl rfl rfl rfl ?_
  refine .call (j := 237) (as := [.ref 170, .int (xs (i + Int32.ofInt 1).toNatClampNeg), .int (xs (i + Int32.ofInt 2).toNatClampNeg), .int (xs (i + Int32.ofInt 3).toNatClampNeg), .int (xs (i + Int32.ofInt 4).toNatClampNeg)]) (ks6 (r0 := []) (kcL (e := (6, .invokevirtual 70, 0)) rfl) (xinvV (j := 237) (n := 4) (ci := 13) rfl rfl e2 rfl rfl)) r2 ?_
  refine .step (ks0 (st' := []) (kcL (e := (0, .pop, 0)) rfl) rfl) ?_
  exact .step (ks4 (pc' := 1448) (st' := []) (kcL (e := (4, .goto 955, 1448)) rfl) rfl) kend
theorem kca_10 (H : xRs 133 248 [.int (xs (i + Int32.ofInt 1).toNatClampNeg)] (fun a b => kI a ∧ kI b)) (hn : n ≤ 512) (hI : xRI n ph) (hA : kAg i N) : ∃ ph2, xRI (n + 1) ph2 ∧ pm_Se (kK2 xs N) false (pm_Rd kK false 600) 0 (496, kL2 i a b d, [], ph, c, s) (23, kL2 (i + Int32.ofInt 5) a b d, [], ph2, c, s) := by
  obtain ⟨v1, v2, ph1, ph2, ⟨⟨f1, e1⟩, f2, e2⟩, r1, r2, ⟨⟨x, rfl⟩, y, rfl⟩, hI2⟩ := H n hn ph hI
  refine ⟨ph2, hI2, ?_⟩
  refine .step (ks2 (n := 1) (v := .ref 0) (kcL (e := (2, .aload_n kF1, 0)) rfl) rfl) ?_
  refine karg2 _ (hA 1 (by decide) (by decide)) rfl rfl rfl rfl rfl ?_
  refine .call (j := 133) (as := [.ref 0, .int (xs (i + Int32.ofInt 1).toNatClampNeg)]) (ks6 (r0 := []) (kcL (e := (6, .invokevirtual 71, 0)) rfl) (xinvV (j := 133) (n := 1) (ci := 12) rfl rfl e1 rfl rfl)) r1 ?_
  refine .step (ks0 (st' := []) (kcL (e := (0, .pop, 0)) rfl) rfl) ?_
  refine .step (ks2 (n := 1) (v := .ref 170) (kcL (e := (2, .aload_n kF2, 0)) rfl) rfl) ?_
  refine karg2 _ (hA 1 (by decide) (by decide)) rfl rfl rfl rfl rfl ?_
  refine .call (j := 248) (as := [.ref 170, .int (xs (i + Int32.ofInt 1).toNatClampNeg)]) (ks6 (r0 := []) (kcL (e := (6, .invokevirtual 74, 0)) rfl) (xinvV (j := 248) (n := 1) (ci := 13) rfl rfl e2 rfl rfl)) r2 ?_
  refine .step (ks0 (st' := []) (kcL (e := (0, .pop, 0)) rfl) rfl) ?_
  exact .step (ks4 (pc' := 1448) (st' := []) (kcL (e := (4, .goto 930, 1448)) rfl) rfl) kend
theorem kca_11 (H : xRs 134 249 [.int (xs (i + Int32.ofInt 1).toNatClampNeg), .int (xs (i + Int32.ofInt 2).toNatClampNeg)] (fun a b => kI a ∧ kI b)) (hn : n ≤ 512) (hI : xRI n ph) (hA : kAg i N) : ∃ ph2, xRI (n + 1) ph2 ∧ pm_Se (kK2 xs N) false (pm_Rd kK false 600) 0 (521, kL2 i a b d, [], ph, c, s) (23, kL2 (i + Int32.ofInt 5) a b d, [], ph2, c, s) := by
  obtain ⟨v1, v2, ph1, ph2, ⟨⟨f1, e1⟩, f2, e2⟩, r1, r2, ⟨⟨x, rfl⟩, y, rfl⟩, hI2⟩ := H n hn ph hI
  refine ⟨ph2, hI2, ?_⟩
  refine .step (ks2 (n := 1) (v := .ref 0) (kcL (e := (2, .aload_n kF1, 0)) rfl) rfl) ?_
  refine karg2 _ (hA 1 (by decide) (by decide)) rfl rfl rfl rfl rfl ?_
  refine karg2 _ (hA 2 (by decide) (by decide)) rfl rfl rfl rfl rfl ?_
  refine .call (j := 134) (as := [.ref 0, .int (xs (i + Int32.ofInt 1).toNatClampNeg), .int (xs (i + Int32.ofInt 2).toNatClampNeg)]) (ks6 (r0 := []) (kcL (e := (6, .invokevirtual 75, 0)) rfl) (xinvV (j := 134) (n := 2) (ci := 12) rfl rfl e1 rfl rfl)) r1 ?_
  refine .step (ks0 (st' := []) (kcL (e := (0, .pop, 0)) rfl) rfl) ?_
  refine .step (ks2 (n := 1) (v := .ref 170) (kcL (e := (2, .aload_n kF2, 0)) rfl) rfl) ?_
  refine karg2 _ (hA 1 (by decide) (by decide)) rfl rfl rfl rfl rfl ?_
  refine karg2 _ (hA 2 (by decide) (by decide)) rfl rfl rfl rfl rfl ?_
  refine .call (j := 249) (as := [.ref 170, .int (xs (i + Int32.ofInt 1).toNatClampNeg), .int (xs (i + Int32.ofInt 2).toNatClampNeg)]) (ks6 (r0 := []) (kcL (e := (6, .invokevirtual 78, 0)) rfl) (xinvV (j := 249) (n := 2) (ci := 13) rfl rfl e2 rfl rfl)) r2 ?_
  refine .step (ks0 (st' := []) (kcL (e := (0, .pop, 0)) rfl) rfl) ?_
  exact .step (ks4 (pc' := 1448) (st' := []) (kcL (e := (4, .goto 893, 1448)) rfl) rfl) kend
theorem kca_12 (H : xRs 135 250 [.int (xs (i + Int32.ofInt 1).toNatClampNeg), .int (xs (i + Int32.ofInt 2).toNatClampNeg)] (fun a b => kI a ∧ kI b)) (hn : n ≤ 512) (hI : xRI n ph) (hA : kAg i N) : ∃ ph2, xRI (n + 1) ph2 ∧ pm_Se (kK2 xs N) false (pm_Rd kK false 600) 0 (558, kL2 i a b d, [], ph, c, s) (23, kL2 (i + Int32.ofInt 5) a b d, [], ph2, c, s) := by
  obtain ⟨v1, v2, ph1, ph2, ⟨⟨f1, e1⟩, f2, e2⟩, r1, r2, ⟨⟨x, rfl⟩, y, rfl⟩, hI2⟩ := H n hn ph hI
  refine ⟨ph2, hI2, ?_⟩
  refine .step (ks2 (n := 1) (v := .ref 0) (kcL (e := (2, .aload_n kF1, 0)) rfl) rfl) ?_
  refine karg2 _ (hA 1 (by decide) (by decide)) rfl rfl rfl rfl rfl ?_
  refine karg2 _ (hA 2 (by decide) (by decide)) rfl rfl rfl rfl rfl ?_
  refine .call (j := 135) (as := [.ref 0, .int (xs (i + Int32.ofInt 1).toNatClampNeg), .int (xs (i + Int32.ofInt 2).toNatClampNeg)]) (ks6 (r0 := []) (kcL (e := (6, .invokevirtual 79, 0)) rfl) (xinvV (j := 135) (n := 2) (ci := 12) rfl rfl e1 rfl rfl)) r1 ?_
  refine .step (ks0 (st' := []) (kcL (e := (0, .pop, 0)) rfl) rfl) ?_
  refine .step (ks2 (n := 1) (v := .ref 170) (kcL (e := (2, .aload_n kF2, 0)) rfl) rfl) ?_
  refine karg2 _ (hA 1 (by decide) (by decide)) rfl rfl rfl rfl rfl ?_
  refine karg2 _ (hA 2 (by decide) (by decide)) rfl rfl rfl rfl rfl ?_
  refine .call (j := 250) (as := [.ref 170, .int (xs (i + Int32.ofInt 1).toNatClampNeg), .int (xs (i + Int32.ofInt 2).toNatClampNeg)]) (ks6 (r0 := []) (kcL (e := (6, .invokevirtual 82, 0)) rfl) (xinvV (j := 250) (n := 2) (ci := 13) rfl rfl e2 rfl rfl)) r2 ?_
  refine .step (ks0 (st' := []) (kcL (e := (0, .pop, 0)) rfl) rfl) ?_
  exact .step (ks4 (pc' := 1448) (st' := []) (kcL (e := (4, .goto 856, 1448)) rfl) rfl) kend
theorem kca_13 (H : xRs 136 251 [.int (xs (i + Int32.ofInt 1).toNatClampNeg), .int (xs (i + Int32.ofInt 2).toNatClampNeg)] (fun a b => kI a ∧ kI b)) (hn : n ≤ 512) (hI : xRI n ph) (hA : kAg i N) : ∃ ph2, xRI (n + 1) ph2 ∧ pm_Se (kK2 xs N) false (pm_Rd kK false 600) 0 (595, kL2 i a b d, [], ph, c, s) (23, kL2 (i + Int32.ofInt 5) a b d, [], ph2, c, s) := by
  obtain ⟨v1, v2, ph1, ph2, ⟨⟨f1, e1⟩, f2, e2⟩, r1, r2, ⟨⟨x, rfl⟩, y, rfl⟩, hI2⟩ := H n hn ph hI
  refine ⟨ph2, hI2, ?_⟩
  refine .step (ks2 (n := 1) (v := .ref 0) (kcL (e := (2, .aload_n kF1, 0)) rfl) rfl) ?_
  refine karg2 _ (hA 1 (by decide) (by decide)) rfl rfl rfl rfl rfl ?_
  refine karg2 _ (hA 2 (by decide) (by decide)) rfl rfl rfl rfl rfl ?_
  refine .call (j := 136) (as := [.ref 0, .int (xs (i + Int32.ofInt 1).toNatClampNeg), .int (xs (i + Int32.ofInt 2).toNatClampNeg)]) (ks6 (r0 := []) (kcL (e := (6, .invokevirtual 83, 0)) rfl) (xinvV (j := 136) (n := 2) (ci := 12) rfl rfl e1 rfl rfl)) r1 ?_
  refine .step (ks0 (st' := []) (kcL (e := (0, .pop, 0)) rfl) rfl) ?_
  refine .step (ks2 (n := 1) (v := .ref 170) (kcL (e := (2, .aload_n kF2, 0)) rfl) rfl) ?_
  refine karg2 _ (hA 1 (by decide) (by decide)) rfl rfl rfl rfl rfl ?_
  refine karg2 _ (hA 2 (by decide) (by decide)) rfl rfl rfl rfl rfl ?_
  refine .call (j := 251) (as := [.ref 170, .int (xs (i + Int32.ofInt 1).toNatClampNeg), .int (xs (i + Int32.ofInt 2).toNatClampNeg)]) (ks6 (r0 := []) (kcL (e := (6, .invokevirtual 86, 0)) rfl) (xinvV (j := 251) (n := 2) (ci := 13) rfl rfl e2 rfl rfl)) r2 ?_
  refine .step (ks0 (st' := []) (kcL (e := (0, .pop, 0)) rfl) rfl) ?_
  exact .step (ks4 (pc' := 1448) (st' := []) (kcL (e := (4, .goto 819, 1448)) rfl) rfl) kend
theorem kca_14 (H : xRs 137 252 [.int (xs (i + Int32.ofInt 1).toNatClampNeg), .int (xs (i + Int32.ofInt 2).toNatClampNeg)] (fun a b => kI a ∧ kI b)) (hn : n ≤ 512) (hI : xRI n ph) (hA : kAg i N) : ∃ ph2, xRI (n + 1) ph2 ∧ pm_Se (kK2 xs N) false (pm_Rd kK false 600) 0 (632, kL2 i a b d, [], ph, c, s) (23, kL2 (i + Int32.ofInt 5) a b d, [], ph2, c, s) := by
  obtain ⟨v1, v2, ph1, ph2, ⟨⟨f1, e1⟩, f2, e2⟩, r1, r2, ⟨⟨x, rfl⟩, y, rfl⟩, hI2⟩ := H n hn ph hI
  refine ⟨ph2, hI2, ?_⟩
  refine .step (ks2 (n := 1) (v := .ref 0) (kcL (e := (2, .aload_n kF1, 0)) rfl) rfl) ?_
  refine karg2 _ (hA 1 (by decide) (by decide)) rfl rfl rfl rfl rfl ?_
  refine karg2 _ (hA 2 (by decide) (by decide)) rfl rfl rfl rfl rfl ?_
  refine .call (j := 137) (as := [.ref 0, .int (xs (i + Int32.ofInt 1).toNatClampNeg), .int (xs (i + Int32.ofInt 2).toNatClampNeg)]) (ks6 (r0 := []) (kcL (e := (6, .invokevirtual 87, 0)) rfl) (xinvV (j := 137) (n := 2) (ci := 12) rfl rfl e1 rfl rfl)) r1 ?_
  refine .step (ks0 (st' := []) (kcL (e := (0, .pop, 0)) rfl) rfl) ?_
  refine .step (ks2 (n := 1) (v := .ref 170) (kcL (e := (2, .aload_n kF2, 0)) rfl) rfl) ?_
  refine karg2 _ (hA 1 (by decide) (by decide)) rfl rfl rfl rfl rfl ?_
  refine karg2 _ (hA 2 (by decide) (by decide)) rfl rfl rfl rfl rfl ?_
  refine .call (j := 252) (as := [.ref 170, .int (xs (i + Int32.ofInt 1).toNatClampNeg), .int (xs (i + Int32.ofInt 2).toNatClampNeg)]) (ks6 (r0 := []) (kcL (e := (6, .invokevirtual 90, 0)) rfl) (xinvV (j := 252) (n := 2) (ci := 13) rfl rfl e2 rfl rfl)) r2 ?_
  refine .step (ks0 (st' := []) (kcL (e := (0, .pop, 0)) rfl) rfl) ?_
  exact .step (ks4 (pc' := 1448) (st' := []) (kcL (e := (4, .goto 782, 1448)) rfl) rfl) kend
theorem kca_15 (H : xRs 138 255 [] (fun a b => kI a ∧ kI b)) (hn : n ≤ 512) (hI : xRI n ph) (hA : kAg i N) : ∃ ph2, xRI (n + 1) ph2 ∧ pm_Se (kK2 xs N) false (pm_Rd kK false 600) 0 (669, kL2 i a b d, [], ph, c, s) (23, kL2 (i + Int32.ofInt 5) a b d, [], ph2, c, s) := by
  obtain ⟨v1, v2, ph1, ph2, ⟨⟨f1, e1⟩, f2, e2⟩, r1, r2, ⟨⟨x, rfl⟩, y, rfl⟩, hI2⟩ := H n hn ph hI
  refine ⟨ph2, hI2, ?_⟩
  refine .step (ks2 (n := 1) (v := .ref 0) (kcL (e := (2, .aload_n kF1, 0)) rfl) rfl) ?_
  refine .call (j := 138) (as := [.ref 0]) (ks6 (r0 := []) (kcL (e := (6, .invokevirtual 91, 0)) rfl) (xinvV (j := 138) (n := 0) (ci := 12) rfl rfl e1 rfl rfl)) r1 ?_
  refine .step (ks0 (st' := []) (kcL (e := (0, .pop, 0)) rfl) rfl) ?_
  refine .step (ks2 (n := 1) (v := .ref 170) (kcL (e := (2, .aload_n kF2, 0)) rfl) rfl) ?_
  refine .call (j := 255) (as := [.ref 170]) (ks6 (r0 := []) (kcL (e := (6, .invokevirtual 94, 0)) rfl) (xinvV (j := 255) (n := 0) (ci := 13) rfl rfl e2 rfl rfl)) r2 ?_
  refine .step (ks0 (st' := []) (kcL (e := (0, .pop, 0)) rfl) rfl) ?_
  exact .step (ks4 (pc' := 1448) (st' := []) (kcL (e := (4, .goto 769, 1448)) rfl) rfl) kend
theorem kca_16 (H : xRs 139 241 [] (fun a b => kI a ∧ kI b)) (hn : n ≤ 512) (hI : xRI n ph) (hA : kAg i N) : ∃ ph2, xRI (n + 1) ph2 ∧ pm_Se (kK2 xs N) false (pm_Rd kK false 600) 0 (682, kL2 i a b d, [], ph, c, s) (23, kL2 (i + Int32.ofInt 5) a b d, [], ph2, c, s) := by
  obtain ⟨v1, v2, ph1, ph2, ⟨⟨f1, e1⟩, f2, e2⟩, r1, r2, ⟨⟨x, rfl⟩, y, rfl⟩, hI2⟩ := H n hn ph hI
  refine ⟨ph2, hI2, ?_⟩
  refine .step (ks2 (n := 1) (v := .ref 0) (kcL (e := (2, .aload_n kF1, 0)) rfl) rfl) ?_
  refine .call (j := 139) (as := [.ref 0]) (ks6 (r0 := []) (kcL (e := (6, .invokevirtual 95, 0)) rfl) (xinvV (j := 139) (n := 0) (ci := 12) rfl rfl e1 rfl rfl)) r1 ?_
  refine .step (ks0 (st' := []) (kcL (e := (0, .pop, 0)) rfl) rfl) ?_
  refine .step (ks2 (n := 1) (v := .ref 170) (kcL (e := (2, .aload_n kF2, 0)) rfl) rfl) ?_
  refine .call (j := 241) (as := [.ref 170]) (ks6 (r0 := []) (kcL (e := (6, .invokevirtual 98, 0)) rfl) (xinvV (j := 241) (n := 0) (ci := 13) rfl rfl e2 rfl rfl)) r2 ?_
  refine .step (ks0 (st' := []) (kcL (e := (0, .pop, 0)) rfl) rfl) ?_
  exact .step (ks4 (pc' := 1448) (st' := []) (kcL (e := (4, .goto 756, 1448)) rfl) rfl) kend
theorem kca_17 (H : xRs 147 257 [.int (xs (i + Int32.ofInt 1).toNatClampNeg)] (fun a b => kJ a ∧ kJ b)) (hn : n ≤ 512) (hI : xRI n ph) (hA : kAg i N) : ∃ ph2, xRI (n + 1) ph2 ∧ pm_Se (kK2 xs N) false (pm_Rd kK false 600) 0 (695, kL2 i a b d, [], ph, c, s) (23, kL2 (i + Int32.ofInt 5) a b d, [], ph2, c, s) := by
  obtain ⟨v1, v2, ph1, ph2, ⟨⟨f1, e1⟩, f2, e2⟩, r1, r2, ⟨⟨x, rfl⟩, y, rfl⟩, hI2⟩ := H n hn ph hI
  refine ⟨ph2, hI2, ?_⟩
  refine .step (ks2 (n := 1) (v := .ref 0) (kcL (e := (2, .aload_n kF1, 0)) rfl) rfl) ?_
  refine karg2 _ (hA 1 (by decide) (by decide)) rfl rfl rfl rfl rfl ?_
  refine .call (j := 147) (as := [.ref 0, .int (xs (i + Int32.ofInt 1).toNatClampNeg)]) (ks6 (r0 := []) (kcL (e := (6, .invokevirtual 99, 0)) rfl) (xinvV (j := 147) (n := 1) (ci := 12) rfl rfl e1 rfl rfl)) r1 ?_
  refine .step (ks0 (st' := []) (kcL (e := (0, .pop2, 0)) rfl) rfl) ?_
  refine .step (ks2 (n := 1) (v := .ref 170) (kcL (e := (2, .aload_n kF2, 0)) rfl) rfl) ?_
  refine karg2 _ (hA 1 (by decide) (by decide)) rfl rfl rfl rfl rfl ?_
  refine .call (j := 257) (as := [.ref 170, .int (xs (i + Int32.ofInt 1).toNatClampNeg)]) (ks6 (r0 := []) (kcL (e := (6, .invokevirtual 102, 0)) rfl) (xinvV (j := 257) (n := 1) (ci := 13) rfl rfl e2 rfl rfl)) r2 ?_
  refine .step (ks0 (st' := []) (kcL (e := (0, .pop2, 0)) rfl) rfl) ?_
  exact .step (ks4 (pc' := 1448) (st' := []) (kcL (e := (4, .goto 731, 1448)) rfl) rfl) kend
theorem kca_18 (H : xRs 148 258 [.int (xs (i + Int32.ofInt 1).toNatClampNeg)] (fun a b => kI a ∧ kI b)) (hn : n ≤ 512) (hI : xRI n ph) (hA : kAg i N) : ∃ ph2, xRI (n + 1) ph2 ∧ pm_Se (kK2 xs N) false (pm_Rd kK false 600) 0 (720, kL2 i a b d, [], ph, c, s) (23, kL2 (i + Int32.ofInt 5) a b d, [], ph2, c, s) := by
  obtain ⟨v1, v2, ph1, ph2, ⟨⟨f1, e1⟩, f2, e2⟩, r1, r2, ⟨⟨x, rfl⟩, y, rfl⟩, hI2⟩ := H n hn ph hI
  refine ⟨ph2, hI2, ?_⟩
  refine .step (ks2 (n := 1) (v := .ref 0) (kcL (e := (2, .aload_n kF1, 0)) rfl) rfl) ?_
  refine karg2 _ (hA 1 (by decide) (by decide)) rfl rfl rfl rfl rfl ?_
  refine .call (j := 148) (as := [.ref 0, .int (xs (i + Int32.ofInt 1).toNatClampNeg)]) (ks6 (r0 := []) (kcL (e := (6, .invokevirtual 103, 0)) rfl) (xinvV (j := 148) (n := 1) (ci := 12) rfl rfl e1 rfl rfl)) r1 ?_
  refine .step (ks0 (st' := []) (kcL (e := (0, .pop, 0)) rfl) rfl) ?_
  refine .step (ks2 (n := 1) (v := .ref 170) (kcL (e := (2, .aload_n kF2, 0)) rfl) rfl) ?_
  refine karg2 _ (hA 1 (by decide) (by decide)) rfl rfl rfl rfl rfl ?_
  refine .call (j := 258) (as := [.ref 170, .int (xs (i + Int32.ofInt 1).toNatClampNeg)]) (ks6 (r0 := []) (kcL (e := (6, .invokevirtual 106, 0)) rfl) (xinvV (j := 258) (n := 1) (ci := 13) rfl rfl e2 rfl rfl)) r2 ?_
  refine .step (ks0 (st' := []) (kcL (e := (0, .pop, 0)) rfl) rfl) ?_
  exact .step (ks4 (pc' := 1448) (st' := []) (kcL (e := (4, .goto 706, 1448)) rfl) rfl) kend
theorem kca_19 (H : xRs 149 260 [] (fun a b => kJ a ∧ kJ b)) (hn : n ≤ 512) (hI : xRI n ph) (hA : kAg i N) : ∃ ph2, xRI (n + 1) ph2 ∧ pm_Se (kK2 xs N) false (pm_Rd kK false 600) 0 (745, kL2 i a b d, [], ph, c, s) (23, kL2 (i + Int32.ofInt 5) a b d, [], ph2, c, s) := by
  obtain ⟨v1, v2, ph1, ph2, ⟨⟨f1, e1⟩, f2, e2⟩, r1, r2, ⟨⟨x, rfl⟩, y, rfl⟩, hI2⟩ := H n hn ph hI
  refine ⟨ph2, hI2, ?_⟩
  refine .step (ks2 (n := 1) (v := .ref 0) (kcL (e := (2, .aload_n kF1, 0)) rfl) rfl) ?_
  refine .call (j := 149) (as := [.ref 0]) (ks6 (r0 := []) (kcL (e := (6, .invokevirtual 107, 0)) rfl) (xinvV (j := 149) (n := 0) (ci := 12) rfl rfl e1 rfl rfl)) r1 ?_
  refine .step (ks0 (st' := []) (kcL (e := (0, .pop2, 0)) rfl) rfl) ?_
  refine .step (ks2 (n := 1) (v := .ref 170) (kcL (e := (2, .aload_n kF2, 0)) rfl) rfl) ?_
  refine .call (j := 260) (as := [.ref 170]) (ks6 (r0 := []) (kcL (e := (6, .invokevirtual 111, 0)) rfl) (xinvV (j := 260) (n := 0) (ci := 13) rfl rfl e2 rfl rfl)) r2 ?_
  refine .step (ks0 (st' := []) (kcL (e := (0, .pop2, 0)) rfl) rfl) ?_
  exact .step (ks4 (pc' := 1448) (st' := []) (kcL (e := (4, .goto 693, 1448)) rfl) rfl) kend
theorem kca_20 (H : xRs 150 261 [] (fun a b => kI a ∧ kI b)) (hn : n ≤ 512) (hI : xRI n ph) (hA : kAg i N) : ∃ ph2, xRI (n + 1) ph2 ∧ pm_Se (kK2 xs N) false (pm_Rd kK false 600) 0 (758, kL2 i a b d, [], ph, c, s) (23, kL2 (i + Int32.ofInt 5) a b d, [], ph2, c, s) := by
  obtain ⟨v1, v2, ph1, ph2, ⟨⟨f1, e1⟩, f2, e2⟩, r1, r2, ⟨⟨x, rfl⟩, y, rfl⟩, hI2⟩ := H n hn ph hI
  refine ⟨ph2, hI2, ?_⟩
  refine .step (ks2 (n := 1) (v := .ref 0) (kcL (e := (2, .aload_n kF1, 0)) rfl) rfl) ?_
  refine .call (j := 150) (as := [.ref 0]) (ks6 (r0 := []) (kcL (e := (6, .invokevirtual 112, 0)) rfl) (xinvV (j := 150) (n := 0) (ci := 12) rfl rfl e1 rfl rfl)) r1 ?_
  refine .step (ks0 (st' := []) (kcL (e := (0, .pop, 0)) rfl) rfl) ?_
  refine .step (ks2 (n := 1) (v := .ref 170) (kcL (e := (2, .aload_n kF2, 0)) rfl) rfl) ?_
  refine .call (j := 261) (as := [.ref 170]) (ks6 (r0 := []) (kcL (e := (6, .invokevirtual 115, 0)) rfl) (xinvV (j := 261) (n := 0) (ci := 13) rfl rfl e2 rfl rfl)) r2 ?_
  refine .step (ks0 (st' := []) (kcL (e := (0, .pop, 0)) rfl) rfl) ?_
  exact .step (ks4 (pc' := 1448) (st' := []) (kcL (e := (4, .goto 680, 1448)) rfl) rfl) kend
theorem kca_21 (H : xRs 151 262 [.int (xs (i + Int32.ofInt 1).toNatClampNeg)] (fun a b => kI a ∧ kI b)) (hn : n ≤ 512) (hI : xRI n ph) (hA : kAg i N) : ∃ ph2, xRI (n + 1) ph2 ∧ pm_Se (kK2 xs N) false (pm_Rd kK false 600) 0 (771, kL2 i a b d, [], ph, c, s) (23, kL2 (i + Int32.ofInt 5) a b d, [], ph2, c, s) := by
  obtain ⟨v1, v2, ph1, ph2, ⟨⟨f1, e1⟩, f2, e2⟩, r1, r2, ⟨⟨x, rfl⟩, y, rfl⟩, hI2⟩ := H n hn ph hI
  refine ⟨ph2, hI2, ?_⟩
  refine .step (ks2 (n := 1) (v := .ref 0) (kcL (e := (2, .aload_n kF1, 0)) rfl) rfl) ?_
  refine karg2 _ (hA 1 (by decide) (by decide)) rfl rfl rfl rfl rfl ?_
  refine .call (j := 151) (as := [.ref 0, .int (xs (i + Int32.ofInt 1).toNatClampNeg)]) (ks6 (r0 := []) (kcL (e := (6, .invokevirtual 116, 0)) rfl) (xinvV (j := 151) (n := 1) (ci := 12) rfl rfl e1 rfl rfl)) r1 ?_
  refine .step (ks0 (st' := []) (kcL (e := (0, .pop, 0)) rfl) rfl) ?_
  refine .step (ks2 (n := 1) (v := .ref 170) (kcL (e := (2, .aload_n kF2, 0)) rfl) rfl) ?_
  refine karg2 _ (hA 1 (by decide) (by decide)) rfl rfl rfl rfl rfl ?_
  refine .call (j := 262) (as := [.ref 170, .int (xs (i + Int32.ofInt 1).toNatClampNeg)]) (ks6 (r0 := []) (kcL (e := (6, .invokevirtual 119, 0)) rfl) (xinvV (j := 262) (n := 1) (ci := 13) rfl rfl e2 rfl rfl)) r2 ?_
  refine .step (ks0 (st' := []) (kcL (e := (0, .pop, 0)) rfl) rfl) ?_
  exact .step (ks4 (pc' := 1448) (st' := []) (kcL (e := (4, .goto 655, 1448)) rfl) rfl) kend
theorem kca_22 (H : xRs 152 263 [] (fun a b => kI a ∧ kI b)) (hn : n ≤ 512) (hI : xRI n ph) (hA : kAg i N) : ∃ ph2, xRI (n + 1) ph2 ∧ pm_Se (kK2 xs N) false (pm_Rd kK false 600) 0 (796, kL2 i a b d, [], ph, c, s) (23, kL2 (i + Int32.ofInt 5) a b d, [], ph2, c, s) := by
  obtain ⟨v1, v2, ph1, ph2, ⟨⟨f1, e1⟩, f2, e2⟩, r1, r2, ⟨⟨x, rfl⟩, y, rfl⟩, hI2⟩ := H n hn ph hI
  refine ⟨ph2, hI2, ?_⟩
  refine .step (ks2 (n := 1) (v := .ref 0) (kcL (e := (2, .aload_n kF1, 0)) rfl) rfl) ?_
  refine .call (j := 152) (as := [.ref 0]) (ks6 (r0 := []) (kcL (e := (6, .invokevirtual 120, 0)) rfl) (xinvV (j := 152) (n := 0) (ci := 12) rfl rfl e1 rfl rfl)) r1 ?_
  refine .step (ks0 (st' := []) (kcL (e := (0, .pop, 0)) rfl) rfl) ?_
  refine .step (ks2 (n := 1) (v := .ref 170) (kcL (e := (2, .aload_n kF2, 0)) rfl) rfl) ?_
  refine .call (j := 263) (as := [.ref 170]) (ks6 (r0 := []) (kcL (e := (6, .invokevirtual 123, 0)) rfl) (xinvV (j := 263) (n := 0) (ci := 13) rfl rfl e2 rfl rfl)) r2 ?_
  refine .step (ks0 (st' := []) (kcL (e := (0, .pop, 0)) rfl) rfl) ?_
  exact .step (ks4 (pc' := 1448) (st' := []) (kcL (e := (4, .goto 642, 1448)) rfl) rfl) kend
theorem kca_23 (H : xRs 153 265 [] (fun a b => kI a ∧ kI b)) (hn : n ≤ 512) (hI : xRI n ph) (hA : kAg i N) : ∃ ph2, xRI (n + 1) ph2 ∧ pm_Se (kK2 xs N) false (pm_Rd kK false 600) 0 (809, kL2 i a b d, [], ph, c, s) (23, kL2 (i + Int32.ofInt 5) a b d, [], ph2, c, s) := by
  obtain ⟨v1, v2, ph1, ph2, ⟨⟨f1, e1⟩, f2, e2⟩, r1, r2, ⟨⟨x, rfl⟩, y, rfl⟩, hI2⟩ := H n hn ph hI
  refine ⟨ph2, hI2, ?_⟩
  refine .step (ks2 (n := 1) (v := .ref 0) (kcL (e := (2, .aload_n kF1, 0)) rfl) rfl) ?_
  refine .call (j := 153) (as := [.ref 0]) (ks6 (r0 := []) (kcL (e := (6, .invokevirtual 124, 0)) rfl) (xinvV (j := 153) (n := 0) (ci := 12) rfl rfl e1 rfl rfl)) r1 ?_
  refine .step (ks0 (st' := []) (kcL (e := (0, .pop, 0)) rfl) rfl) ?_
  refine .step (ks2 (n := 1) (v := .ref 170) (kcL (e := (2, .aload_n kF2, 0)) rfl) rfl) ?_
  refine .call (j := 265) (as := [.ref 170]) (ks6 (r0 := []) (kcL (e := (6, .invokevirtual 127, 0)) rfl) (xinvV (j := 265) (n := 0) (ci := 13) rfl rfl e2 rfl rfl)) r2 ?_
  refine .step (ks0 (st' := []) (kcL (e := (0, .pop, 0)) rfl) rfl) ?_
  exact .step (ks4 (pc' := 1448) (st' := []) (kcL (e := (4, .goto 629, 1448)) rfl) rfl) kend
theorem kca_24 (H : xRs 154 266 [.int (xs (i + Int32.ofInt 1).toNatClampNeg), .int (xs (i + Int32.ofInt 2).toNatClampNeg)] (fun a b => kI a ∧ kI b)) (hn : n ≤ 512) (hI : xRI n ph) (hA : kAg i N) : ∃ ph2, xRI (n + 1) ph2 ∧ pm_Se (kK2 xs N) false (pm_Rd kK false 600) 0 (822, kL2 i a b d, [], ph, c, s) (23, kL2 (i + Int32.ofInt 5) a b d, [], ph2, c, s) := by
  obtain ⟨v1, v2, ph1, ph2, ⟨⟨f1, e1⟩, f2, e2⟩, r1, r2, ⟨⟨x, rfl⟩, y, rfl⟩, hI2⟩ := H n hn ph hI
  refine ⟨ph2, hI2, ?_⟩
  refine .step (ks2 (n := 1) (v := .ref 0) (kcL (e := (2, .aload_n kF1, 0)) rfl) rfl) ?_
  refine karg2 _ (hA 1 (by decide) (by decide)) rfl rfl rfl rfl rfl ?_
  refine karg2 _ (hA 2 (by decide) (by decide)) rfl rfl rfl rfl rfl ?_
  refine .call (j := 154) (as := [.ref 0, .int (xs (i + Int32.ofInt 1).toNatClampNeg), .int (xs (i + Int32.ofInt 2).toNatClampNeg)]) (ks6 (r0 := []) (kcL (e := (6, .invokevirtual 128, 0)) rfl) (xinvV (j := 154) (n := 2) (ci := 12) rfl rfl e1 rfl rfl)) r1 ?_
  refine .step (ks0 (st' := []) (kcL (e := (0, .pop, 0)) rfl) rfl) ?_
  refine .step (ks2 (n := 1) (v := .ref 170) (kcL (e := (2, .aload_n kF2, 0)) rfl) rfl) ?_
  refine karg2 _ (hA 1 (by decide) (by decide)) rfl rfl rfl rfl rfl ?_
  refine karg2 _ (hA 2 (by decide) (by decide)) rfl rfl rfl rfl rfl ?_
  refine .call (j := 266) (as := [.ref 170, .int (xs (i + Int32.ofInt 1).toNatClampNeg), .int (xs (i + Int32.ofInt 2).toNatClampNeg)]) (ks6 (r0 := []) (kcL (e := (6, .invokevirtual 131, 0)) rfl) (xinvV (j := 266) (n := 2) (ci := 13) rfl rfl e2 rfl rfl)) r2 ?_
  refine .step (ks0 (st' := []) (kcL (e := (0, .pop, 0)) rfl) rfl) ?_
  exact .step (ks4 (pc' := 1448) (st' := []) (kcL (e := (4, .goto 592, 1448)) rfl) rfl) kend
theorem kca_25 (H : xRs 155 268 [] (fun a b => kI a ∧ kI b)) (hn : n ≤ 512) (hI : xRI n ph) (hA : kAg i N) : ∃ ph2, xRI (n + 1) ph2 ∧ pm_Se (kK2 xs N) false (pm_Rd kK false 600) 0 (859, kL2 i a b d, [], ph, c, s) (23, kL2 (i + Int32.ofInt 5) a b d, [], ph2, c, s) := by
  obtain ⟨v1, v2, ph1, ph2, ⟨⟨f1, e1⟩, f2, e2⟩, r1, r2, ⟨⟨x, rfl⟩, y, rfl⟩, hI2⟩ := H n hn ph hI
  refine ⟨ph2, hI2, ?_⟩
  refine .step (ks2 (n := 1) (v := .ref 0) (kcL (e := (2, .aload_n kF1, 0)) rfl) rfl) ?_
  refine .call (j := 155) (as := [.ref 0]) (ks6 (r0 := []) (kcL (e := (6, .invokevirtual 132, 0)) rfl) (xinvV (j := 155) (n := 0) (ci := 12) rfl rfl e1 rfl rfl)) r1 ?_
  refine .step (ks0 (st' := []) (kcL (e := (0, .pop, 0)) rfl) rfl) ?_
  refine .step (ks2 (n := 1) (v := .ref 170) (kcL (e := (2, .aload_n kF2, 0)) rfl) rfl) ?_
  refine .call (j := 268) (as := [.ref 170]) (ks6 (r0 := []) (kcL (e := (6, .invokevirtual 135, 0)) rfl) (xinvV (j := 268) (n := 0) (ci := 13) rfl rfl e2 rfl rfl)) r2 ?_
  refine .step (ks0 (st' := []) (kcL (e := (0, .pop, 0)) rfl) rfl) ?_
  exact .step (ks4 (pc' := 1448) (st' := []) (kcL (e := (4, .goto 579, 1448)) rfl) rfl) kend
theorem kca_26 (H : xRs 156 269 [.int (xs (i + Int32.ofInt 1).toNatClampNeg)] (fun a b => kI a ∧ kI b)) (hn : n ≤ 512) (hI : xRI n ph) (hA : kAg i N) : ∃ ph2, xRI (n + 1) ph2 ∧ pm_Se (kK2 xs N) false (pm_Rd kK false 600) 0 (872, kL2 i a b d, [], ph, c, s) (23, kL2 (i + Int32.ofInt 5) a b d, [], ph2, c, s) := by
  obtain ⟨v1, v2, ph1, ph2, ⟨⟨f1, e1⟩, f2, e2⟩, r1, r2, ⟨⟨x, rfl⟩, y, rfl⟩, hI2⟩ := H n hn ph hI
  refine ⟨ph2, hI2, ?_⟩
  refine .step (ks2 (n := 1) (v := .ref 0) (kcL (e := (2, .aload_n kF1, 0)) rfl) rfl) ?_
  refine karg2 _ (hA 1 (by decide) (by decide)) rfl rfl rfl rfl rfl ?_
  refine .call (j := 156) (as := [.ref 0, .int (xs (i + Int32.ofInt 1).toNatClampNeg)]) (ks6 (r0 := []) (kcL (e := (6, .invokevirtual 136, 0)) rfl) (xinvV (j := 156) (n := 1) (ci := 12) rfl rfl e1 rfl rfl)) r1 ?_
  refine .step (ks0 (st' := []) (kcL (e := (0, .pop, 0)) rfl) rfl) ?_
  refine .step (ks2 (n := 1) (v := .ref 170) (kcL (e := (2, .aload_n kF2, 0)) rfl) rfl) ?_
  refine karg2 _ (hA 1 (by decide) (by decide)) rfl rfl rfl rfl rfl ?_
  refine .call (j := 269) (as := [.ref 170, .int (xs (i + Int32.ofInt 1).toNatClampNeg)]) (ks6 (r0 := []) (kcL (e := (6, .invokevirtual 139, 0)) rfl) (xinvV (j := 269) (n := 1) (ci := 13) rfl rfl e2 rfl rfl)) r2 ?_
  refine .step (ks0 (st' := []) (kcL (e := (0, .pop, 0)) rfl) rfl) ?_
  exact .step (ks4 (pc' := 1448) (st' := []) (kcL (e := (4, .goto 554, 1448)) rfl) rfl) kend
theorem kca_27 (H : xRs 157 270 [.int (xs (i + Int32.ofInt 1).toNatClampNeg)] (fun a b => kI a ∧ kI b)) (hn : n ≤ 512) (hI : xRI n ph) (hA : kAg i N) : ∃ ph2, xRI (n + 1) ph2 ∧ pm_Se (kK2 xs N) false (pm_Rd kK false 600) 0 (897, kL2 i a b d, [], ph, c, s) (23, kL2 (i + Int32.ofInt 5) a b d, [], ph2, c, s) := by
  obtain ⟨v1, v2, ph1, ph2, ⟨⟨f1, e1⟩, f2, e2⟩, r1, r2, ⟨⟨x, rfl⟩, y, rfl⟩, hI2⟩ := H n hn ph hI
  refine ⟨ph2, hI2, ?_⟩
  refine .step (ks2 (n := 1) (v := .ref 0) (kcL (e := (2, .aload_n kF1, 0)) rfl) rfl) ?_
  refine karg2 _ (hA 1 (by decide) (by decide)) rfl rfl rfl rfl rfl ?_
  refine .call (j := 157) (as := [.ref 0, .int (xs (i + Int32.ofInt 1).toNatClampNeg)]) (ks6 (r0 := []) (kcL (e := (6, .invokevirtual 140, 0)) rfl) (xinvV (j := 157) (n := 1) (ci := 12) rfl rfl e1 rfl rfl)) r1 ?_
  refine .step (ks0 (st' := []) (kcL (e := (0, .pop, 0)) rfl) rfl) ?_
  refine .step (ks2 (n := 1) (v := .ref 170) (kcL (e := (2, .aload_n kF2, 0)) rfl) rfl) ?_
  refine karg2 _ (hA 1 (by decide) (by decide)) rfl rfl rfl rfl rfl ?_
  refine .call (j := 270) (as := [.ref 170, .int (xs (i + Int32.ofInt 1).toNatClampNeg)]) (ks6 (r0 := []) (kcL (e := (6, .invokevirtual 143, 0)) rfl) (xinvV (j := 270) (n := 1) (ci := 13) rfl rfl e2 rfl rfl)) r2 ?_
  refine .step (ks0 (st' := []) (kcL (e := (0, .pop, 0)) rfl) rfl) ?_
  exact .step (ks4 (pc' := 1448) (st' := []) (kcL (e := (4, .goto 529, 1448)) rfl) rfl) kend
theorem kca_28 (H : xRs 158 272 [.int (xs (i + Int32.ofInt 1).toNatClampNeg), .int (xs (i + Int32.ofInt 2).toNatClampNeg)] (fun a b => kI a ∧ kI b)) (hn : n ≤ 512) (hI : xRI n ph) (hA : kAg i N) : ∃ ph2, xRI (n + 1) ph2 ∧ pm_Se (kK2 xs N) false (pm_Rd kK false 600) 0 (922, kL2 i a b d, [], ph, c, s) (23, kL2 (i + Int32.ofInt 5) a b d, [], ph2, c, s) := by
  obtain ⟨v1, v2, ph1, ph2, ⟨⟨f1, e1⟩, f2, e2⟩, r1, r2, ⟨⟨x, rfl⟩, y, rfl⟩, hI2⟩ := H n hn ph hI
  refine ⟨ph2, hI2, ?_⟩
  refine .step (ks2 (n := 1) (v := .ref 0) (kcL (e := (2, .aload_n kF1, 0)) rfl) rfl) ?_
  refine karg2 _ (hA 1 (by decide) (by decide)) rfl rfl rfl rfl rfl ?_
  refine karg2 _ (hA 2 (by decide) (by decide)) rfl rfl rfl rfl rfl ?_
  refine .call (j := 158) (as := [.ref 0, .int (xs (i + Int32.ofInt 1).toNatClampNeg), .int (xs (i + Int32.ofInt 2).toNatClampNeg)]) (ks6 (r0 := []) (kcL (e := (6, .invokevirtual 144, 0)) rfl) (xinvV (j := 158) (n := 2) (ci := 12) rfl rfl e1 rfl rfl)) r1 ?_
  refine .step (ks0 (st' := []) (kcL (e := (0, .pop, 0)) rfl) rfl) ?_
  refine .step (ks2 (n := 1) (v := .ref 170) (kcL (e := (2, .aload_n kF2, 0)) rfl) rfl) ?_
  refine karg2 _ (hA 1 (by decide) (by decide)) rfl rfl rfl rfl rfl ?_
  refine karg2 _ (hA 2 (by decide) (by decide)) rfl rfl rfl rfl rfl ?_
  refine .call (j := 272) (as := [.ref 170, .int (xs (i + Int32.ofInt 1).toNatClampNeg), .int (xs (i + Int32.ofInt 2).toNatClampNeg)]) (ks6 (r0 := []) (kcL (e := (6, .invokevirtual 147, 0)) rfl) (xinvV (j := 272) (n := 2) (ci := 13) rfl rfl e2 rfl rfl)) r2 ?_
  refine .step (ks0 (st' := []) (kcL (e := (0, .pop, 0)) rfl) rfl) ?_
  exact .step (ks4 (pc' := 1448) (st' := []) (kcL (e := (4, .goto 492, 1448)) rfl) rfl) kend
theorem kca_29 (H : xRs 159 276 [] (fun a b => kI a ∧ kI b)) (hn : n ≤ 512) (hI : xRI n ph) (hA : kAg i N) : ∃ ph2, xRI (n + 1) ph2 ∧ pm_Se (kK2 xs N) false (pm_Rd kK false 600) 0 (959, kL2 i a b d, [], ph, c, s) (23, kL2 (i + Int32.ofInt 5) a b d, [], ph2, c, s) := by
  obtain ⟨v1, v2, ph1, ph2, ⟨⟨f1, e1⟩, f2, e2⟩, r1, r2, ⟨⟨x, rfl⟩, y, rfl⟩, hI2⟩ := H n hn ph hI
  refine ⟨ph2, hI2, ?_⟩
  refine .step (ks2 (n := 1) (v := .ref 0) (kcL (e := (2, .aload_n kF1, 0)) rfl) rfl) ?_
  refine .call (j := 159) (as := [.ref 0]) (ks6 (r0 := []) (kcL (e := (6, .invokevirtual 148, 0)) rfl) (xinvV (j := 159) (n := 0) (ci := 12) rfl rfl e1 rfl rfl)) r1 ?_
  refine .step (ks0 (st' := []) (kcL (e := (0, .pop, 0)) rfl) rfl) ?_
  refine .step (ks2 (n := 1) (v := .ref 170) (kcL (e := (2, .aload_n kF2, 0)) rfl) rfl) ?_
  refine .call (j := 276) (as := [.ref 170]) (ks6 (r0 := []) (kcL (e := (6, .invokevirtual 151, 0)) rfl) (xinvV (j := 276) (n := 0) (ci := 13) rfl rfl e2 rfl rfl)) r2 ?_
  refine .step (ks0 (st' := []) (kcL (e := (0, .pop, 0)) rfl) rfl) ?_
  exact .step (ks4 (pc' := 1448) (st' := []) (kcL (e := (4, .goto 479, 1448)) rfl) rfl) kend
theorem kca_30 (H : xRs 160 277 [.int (xs (i + Int32.ofInt 1).toNatClampNeg)] (fun a b => kI a ∧ kI b)) (hn : n ≤ 512) (hI : xRI n ph) (hA : kAg i N) : ∃ ph2, xRI (n + 1) ph2 ∧ pm_Se (kK2 xs N) false (pm_Rd kK false 600) 0 (972, kL2 i a b d, [], ph, c, s) (23, kL2 (i + Int32.ofInt 5) a b d, [], ph2, c, s) := by
  obtain ⟨v1, v2, ph1, ph2, ⟨⟨f1, e1⟩, f2, e2⟩, r1, r2, ⟨⟨x, rfl⟩, y, rfl⟩, hI2⟩ := H n hn ph hI
  refine ⟨ph2, hI2, ?_⟩
  refine .step (ks2 (n := 1) (v := .ref 0) (kcL (e := (2, .aload_n kF1, 0)) rfl) rfl) ?_
  refine karg2 _ (hA 1 (by decide) (by decide)) rfl rfl rfl rfl rfl ?_
  refine .call (j := 160) (as := [.ref 0, .int (xs (i + Int32.ofInt 1).toNatClampNeg)]) (ks6 (r0 := []) (kcL (e := (6, .invokevirtual 152, 0)) rfl) (xinvV (j := 160) (n := 1) (ci := 12) rfl rfl e1 rfl rfl)) r1 ?_
  refine .step (ks0 (st' := []) (kcL (e := (0, .pop, 0)) rfl) rfl) ?_
  refine .step (ks2 (n := 1) (v := .ref 170) (kcL (e := (2, .aload_n kF2, 0)) rfl) rfl) ?_
  refine karg2 _ (hA 1 (by decide) (by decide)) rfl rfl rfl rfl rfl ?_
  refine .call (j := 277) (as := [.ref 170, .int (xs (i + Int32.ofInt 1).toNatClampNeg)]) (ks6 (r0 := []) (kcL (e := (6, .invokevirtual 155, 0)) rfl) (xinvV (j := 277) (n := 1) (ci := 13) rfl rfl e2 rfl rfl)) r2 ?_
  refine .step (ks0 (st' := []) (kcL (e := (0, .pop, 0)) rfl) rfl) ?_
  exact .step (ks4 (pc' := 1448) (st' := []) (kcL (e := (4, .goto 454, 1448)) rfl) rfl) kend
theorem kca_31 (H : xRs 161 278 [.int (xs (i + Int32.ofInt 1).toNatClampNeg), .int (xs (i + Int32.ofInt 2).toNatClampNeg)] (fun a b => kI a ∧ kI b)) (hn : n ≤ 512) (hI : xRI n ph) (hA : kAg i N) : ∃ ph2, xRI (n + 1) ph2 ∧ pm_Se (kK2 xs N) false (pm_Rd kK false 600) 0 (997, kL2 i a b d, [], ph, c, s) (23, kL2 (i + Int32.ofInt 5) a b d, [], ph2, c, s) := by
  obtain ⟨v1, v2, ph1, ph2, ⟨⟨f1, e1⟩, f2, e2⟩, r1, r2, ⟨⟨x, rfl⟩, y, rfl⟩, hI2⟩ := H n hn ph hI
  refine ⟨ph2, hI2, ?_⟩
  refine .step (ks2 (n := 1) (v := .ref 0) (kcL (e := (2, .aload_n kF1, 0)) rfl) rfl) ?_
  refine karg2 _ (hA 1 (by decide) (by decide)) rfl rfl rfl rfl rfl ?_
  refine karg2 _ (hA 2 (by decide) (by decide)) rfl rfl rfl rfl rfl ?_
  refine .call (j := 161) (as := [.ref 0, .int (xs (i + Int32.ofInt 1).toNatClampNeg), .int (xs (i + Int32.ofInt 2).toNatClampNeg)]) (ks6 (r0 := []) (kcL (e := (6, .invokevirtual 156, 0)) rfl) (xinvV (j := 161) (n := 2) (ci := 12) rfl rfl e1 rfl rfl)) r1 ?_
  refine .step (ks0 (st' := []) (kcL (e := (0, .pop, 0)) rfl) rfl) ?_
  refine .step (ks2 (n := 1) (v := .ref 170) (kcL (e := (2, .aload_n kF2, 0)) rfl) rfl) ?_
  refine karg2 _ (hA 1 (by decide) (by decide)) rfl rfl rfl rfl rfl ?_
  refine karg2 _ (hA 2 (by decide) (by decide)) rfl rfl rfl rfl rfl ?_
  refine .call (j := 278) (as := [.ref 170, .int (xs (i + Int32.ofInt 1).toNatClampNeg), .int (xs (i + Int32.ofInt 2).toNatClampNeg)]) (ks6 (r0 := []) (kcL (e := (6, .invokevirtual 159, 0)) rfl) (xinvV (j := 278) (n := 2) (ci := 13) rfl rfl e2 rfl rfl)) r2 ?_
  refine .step (ks0 (st' := []) (kcL (e := (0, .pop, 0)) rfl) rfl) ?_
  exact .step (ks4 (pc' := 1448) (st' := []) (kcL (e := (4, .goto 417, 1448)) rfl) rfl) kend
theorem kca_32 (H : xRs 164 281 [.int (xs (i + Int32.ofInt 1).toNatClampNeg), .int (xs (i + Int32.ofInt 2).toNatClampNeg)] (fun a b => kI a ∧ kI b)) (hn : n ≤ 512) (hI : xRI n ph) (hA : kAg i N) : ∃ ph2, xRI (n + 1) ph2 ∧ pm_Se (kK2 xs N) false (pm_Rd kK false 600) 0 (1034, kL2 i a b d, [], ph, c, s) (23, kL2 (i + Int32.ofInt 5) a b d, [], ph2, c, s) := by
  obtain ⟨v1, v2, ph1, ph2, ⟨⟨f1, e1⟩, f2, e2⟩, r1, r2, ⟨⟨x, rfl⟩, y, rfl⟩, hI2⟩ := H n hn ph hI
  refine ⟨ph2, hI2, ?_⟩
  refine .step (ks2 (n := 1) (v := .ref 0) (kcL (e := (2, .aload_n kF1, 0)) rfl) rfl) ?_
  refine karg2 _ (hA 1 (by decide) (by decide)) rfl rfl rfl rfl rfl ?_
  refine karg2 _ (hA 2 (by decide) (by decide)) rfl rfl rfl rfl rfl ?_
  refine .call (j := 164) (as := [.ref 0, .int (xs (i + Int32.ofInt 1).toNatClampNeg), .int (xs (i + Int32.ofInt 2).toNatClampNeg)]) (ks6 (r0 := []) (kcL (e := (6, .invokevirtual 160, 0)) rfl) (xinvV (j := 164) (n := 2) (ci := 12) rfl rfl e1 rfl rfl)) r1 ?_
  refine .step (ks0 (st' := []) (kcL (e := (0, .pop, 0)) rfl) rfl) ?_
  refine .step (ks2 (n := 1) (v := .ref 170) (kcL (e := (2, .aload_n kF2, 0)) rfl) rfl) ?_
  refine karg2 _ (hA 1 (by decide) (by decide)) rfl rfl rfl rfl rfl ?_
  refine karg2 _ (hA 2 (by decide) (by decide)) rfl rfl rfl rfl rfl ?_
  refine .call (j := 281) (as := [.ref 170, .int (xs (i + Int32.ofInt 1).toNatClampNeg), .int (xs (i + Int32.ofInt 2).toNatClampNeg)]) (ks6 (r0 := []) (kcL (e := (6, .invokevirtual 163, 0)) rfl) (xinvV (j := 281) (n := 2) (ci := 13) rfl rfl e2 rfl rfl)) r2 ?_
  refine .step (ks0 (st' := []) (kcL (e := (0, .pop, 0)) rfl) rfl) ?_
  exact .step (ks4 (pc' := 1448) (st' := []) (kcL (e := (4, .goto 380, 1448)) rfl) rfl) kend
theorem kca_33 (H : xRs 165 282 [.int (xs (i + Int32.ofInt 1).toNatClampNeg), .int (xs (i + Int32.ofInt 2).toNatClampNeg)] (fun a b => kI a ∧ kI b)) (hn : n ≤ 512) (hI : xRI n ph) (hA : kAg i N) : ∃ ph2, xRI (n + 1) ph2 ∧ pm_Se (kK2 xs N) false (pm_Rd kK false 600) 0 (1071, kL2 i a b d, [], ph, c, s) (23, kL2 (i + Int32.ofInt 5) a b d, [], ph2, c, s) := by
  obtain ⟨v1, v2, ph1, ph2, ⟨⟨f1, e1⟩, f2, e2⟩, r1, r2, ⟨⟨x, rfl⟩, y, rfl⟩, hI2⟩ := H n hn ph hI
  refine ⟨ph2, hI2, ?_⟩
  refine .step (ks2 (n := 1) (v := .ref 0) (kcL (e := (2, .aload_n kF1, 0)) rfl) rfl) ?_
  refine karg2 _ (hA 1 (by decide) (by decide)) rfl rfl rfl rfl rfl ?_
  refine karg2 _ (hA 2 (by decide) (by decide)) rfl rfl rfl rfl rfl ?_
  refine .call (j := 165) (as := [.ref 0, .int (xs (i + Int32.ofInt 1).toNatClampNeg), .int (xs (i + Int32.ofInt 2).toNatClampNeg)]) (ks6 (r0 := []) (kcL (e := (6, .invokevirtual 164, 0)) rfl) (xinvV (j := 165) (n := 2) (ci := 12) rfl rfl e1 rfl rfl)) r1 ?_
  refine .step (ks0 (st' := []) (kcL (e := (0, .pop, 0)) rfl) rfl) ?_
  refine .step (ks2 (n := 1) (v := .ref 170) (kcL (e := (2, .aload_n kF2, 0)) rfl) rfl) ?_
  refine karg2 _ (hA 1 (by decide) (by decide)) rfl rfl rfl rfl rfl ?_
  refine karg2 _ (hA 2 (by decide) (by decide)) rfl rfl rfl rfl rfl ?_
  refine .call (j := 282) (as := [.ref 170, .int (xs (i + Int32.ofInt 1).toNatClampNeg), .int (xs (i + Int32.ofInt 2).toNatClampNeg)]) (ks6 (r0 := []) (kcL (e := (6, .invokevirtual 167, 0)) rfl) (xinvV (j := 282) (n := 2) (ci := 13) rfl rfl e2 rfl rfl)) r2 ?_
  refine .step (ks0 (st' := []) (kcL (e := (0, .pop, 0)) rfl) rfl) ?_
  exact .step (ks4 (pc' := 1448) (st' := []) (kcL (e := (4, .goto 343, 1448)) rfl) rfl) kend
theorem kca_34 (H : xRs 166 283 [.int (xs (i + Int32.ofInt 1).toNatClampNeg), .int (xs (i + Int32.ofInt 2).toNatClampNeg)] (fun a b => kI a ∧ kI b)) (hn : n ≤ 512) (hI : xRI n ph) (hA : kAg i N) : ∃ ph2, xRI (n + 1) ph2 ∧ pm_Se (kK2 xs N) false (pm_Rd kK false 600) 0 (1108, kL2 i a b d, [], ph, c, s) (23, kL2 (i + Int32.ofInt 5) a b d, [], ph2, c, s) := by
  obtain ⟨v1, v2, ph1, ph2, ⟨⟨f1, e1⟩, f2, e2⟩, r1, r2, ⟨⟨x, rfl⟩, y, rfl⟩, hI2⟩ := H n hn ph hI
  refine ⟨ph2, hI2, ?_⟩
  refine .step (ks2 (n := 1) (v := .ref 0) (kcL (e := (2, .aload_n kF1, 0)) rfl) rfl) ?_
  refine karg2 _ (hA 1 (by decide) (by decide)) rfl rfl rfl rfl rfl ?_
  refine karg2 _ (hA 2 (by decide) (by decide)) rfl rfl rfl rfl rfl ?_
  refine .call (j := 166) (as := [.ref 0, .int (xs (i + Int32.ofInt 1).toNatClampNeg), .int (xs (i + Int32.ofInt 2).toNatClampNeg)]) (ks6 (r0 := []) (kcL (e := (6, .invokevirtual 168, 0)) rfl) (xinvV (j := 166) (n := 2) (ci := 12) rfl rfl e1 rfl rfl)) r1 ?_
  refine .step (ks0 (st' := []) (kcL (e := (0, .pop, 0)) rfl) rfl) ?_
  refine .step (ks2 (n := 1) (v := .ref 170) (kcL (e := (2, .aload_n kF2, 0)) rfl) rfl) ?_
  refine karg2 _ (hA 1 (by decide) (by decide)) rfl rfl rfl rfl rfl ?_
  refine karg2 _ (hA 2 (by decide) (by decide)) rfl rfl rfl rfl rfl ?_
  refine .call (j := 283) (as := [.ref 170, .int (xs (i + Int32.ofInt 1).toNatClampNeg), .int (xs (i + Int32.ofInt 2).toNatClampNeg)]) (ks6 (r0 := []) (kcL (e := (6, .invokevirtual 171, 0)) rfl) (xinvV (j := 283) (n := 2) (ci := 13) rfl rfl e2 rfl rfl)) r2 ?_
  refine .step (ks0 (st' := []) (kcL (e := (0, .pop, 0)) rfl) rfl) ?_
  exact .step (ks4 (pc' := 1448) (st' := []) (kcL (e := (4, .goto 306, 1448)) rfl) rfl) kend
theorem kca_35 (H : xRs 167 284 [] (fun a b => kI a ∧ kI b)) (hn : n ≤ 512) (hI : xRI n ph) (hA : kAg i N) : ∃ ph2, xRI (n + 1) ph2 ∧ pm_Se (kK2 xs N) false (pm_Rd kK false 600) 0 (1145, kL2 i a b d, [], ph, c, s) (23, kL2 (i + Int32.ofInt 5) a b d, [], ph2, c, s) := by
  obtain ⟨v1, v2, ph1, ph2, ⟨⟨f1, e1⟩, f2, e2⟩, r1, r2, ⟨⟨x, rfl⟩, y, rfl⟩, hI2⟩ := H n hn ph hI
  refine ⟨ph2, hI2, ?_⟩
  refine .step (ks2 (n := 1) (v := .ref 0) (kcL (e := (2, .aload_n kF1, 0)) rfl) rfl) ?_
  refine .call (j := 167) (as := [.ref 0]) (ks6 (r0 := []) (kcL (e := (6, .invokevirtual 172, 0)) rfl) (xinvV (j := 167) (n := 0) (ci := 12) rfl rfl e1 rfl rfl)) r1 ?_
  refine .step (ks0 (st' := []) (kcL (e := (0, .pop, 0)) rfl) rfl) ?_
  refine .step (ks2 (n := 1) (v := .ref 170) (kcL (e := (2, .aload_n kF2, 0)) rfl) rfl) ?_
  refine .call (j := 284) (as := [.ref 170]) (ks6 (r0 := []) (kcL (e := (6, .invokevirtual 175, 0)) rfl) (xinvV (j := 284) (n := 0) (ci := 13) rfl rfl e2 rfl rfl)) r2 ?_
  refine .step (ks0 (st' := []) (kcL (e := (0, .pop, 0)) rfl) rfl) ?_
  exact .step (ks4 (pc' := 1448) (st' := []) (kcL (e := (4, .goto 293, 1448)) rfl) rfl) kend
theorem kca_36 (H : xRs 168 286 [] (fun a b => kJ a ∧ kJ b)) (hn : n ≤ 512) (hI : xRI n ph) (hA : kAg i N) : ∃ ph2, xRI (n + 1) ph2 ∧ pm_Se (kK2 xs N) false (pm_Rd kK false 600) 0 (1158, kL2 i a b d, [], ph, c, s) (23, kL2 (i + Int32.ofInt 5) a b d, [], ph2, c, s) := by
  obtain ⟨v1, v2, ph1, ph2, ⟨⟨f1, e1⟩, f2, e2⟩, r1, r2, ⟨⟨x, rfl⟩, y, rfl⟩, hI2⟩ := H n hn ph hI
  refine ⟨ph2, hI2, ?_⟩
  refine .step (ks2 (n := 1) (v := .ref 0) (kcL (e := (2, .aload_n kF1, 0)) rfl) rfl) ?_
  refine .call (j := 168) (as := [.ref 0]) (ks6 (r0 := []) (kcL (e := (6, .invokevirtual 176, 0)) rfl) (xinvV (j := 168) (n := 0) (ci := 12) rfl rfl e1 rfl rfl)) r1 ?_
  refine .step (ks0 (st' := []) (kcL (e := (0, .pop2, 0)) rfl) rfl) ?_
  refine .step (ks2 (n := 1) (v := .ref 170) (kcL (e := (2, .aload_n kF2, 0)) rfl) rfl) ?_
  refine .call (j := 286) (as := [.ref 170]) (ks6 (r0 := []) (kcL (e := (6, .invokevirtual 179, 0)) rfl) (xinvV (j := 286) (n := 0) (ci := 13) rfl rfl e2 rfl rfl)) r2 ?_
  refine .step (ks0 (st' := []) (kcL (e := (0, .pop2, 0)) rfl) rfl) ?_
  exact .step (ks4 (pc' := 1448) (st' := []) (kcL (e := (4, .goto 280, 1448)) rfl) rfl) kend
theorem kca_37 (H : xRs 169 287 [] (fun a b => kI a ∧ kI b)) (hn : n ≤ 512) (hI : xRI n ph) (hA : kAg i N) : ∃ ph2, xRI (n + 1) ph2 ∧ pm_Se (kK2 xs N) false (pm_Rd kK false 600) 0 (1171, kL2 i a b d, [], ph, c, s) (23, kL2 (i + Int32.ofInt 5) a b d, [], ph2, c, s) := by
  obtain ⟨v1, v2, ph1, ph2, ⟨⟨f1, e1⟩, f2, e2⟩, r1, r2, ⟨⟨x, rfl⟩, y, rfl⟩, hI2⟩ := H n hn ph hI
  refine ⟨ph2, hI2, ?_⟩
  refine .step (ks2 (n := 1) (v := .ref 0) (kcL (e := (2, .aload_n kF1, 0)) rfl) rfl) ?_
  refine .call (j := 169) (as := [.ref 0]) (ks6 (r0 := []) (kcL (e := (6, .invokevirtual 180, 0)) rfl) (xinvV (j := 169) (n := 0) (ci := 12) rfl rfl e1 rfl rfl)) r1 ?_
  refine .step (ks0 (st' := []) (kcL (e := (0, .pop, 0)) rfl) rfl) ?_
  refine .step (ks2 (n := 1) (v := .ref 170) (kcL (e := (2, .aload_n kF2, 0)) rfl) rfl) ?_
  refine .call (j := 287) (as := [.ref 170]) (ks6 (r0 := []) (kcL (e := (6, .invokevirtual 183, 0)) rfl) (xinvV (j := 287) (n := 0) (ci := 13) rfl rfl e2 rfl rfl)) r2 ?_
  refine .step (ks0 (st' := []) (kcL (e := (0, .pop, 0)) rfl) rfl) ?_
  exact .step (ks4 (pc' := 1448) (st' := []) (kcL (e := (4, .goto 267, 1448)) rfl) rfl) kend
theorem kca_38 (H : xRs 171 288 [.int (xs (i + Int32.ofInt 1).toNatClampNeg), .int (xs (i + Int32.ofInt 2).toNatClampNeg), .int (xs (i + Int32.ofInt 3).toNatClampNeg)] (fun a b => kI a ∧ kI b)) (hn : n ≤ 512) (hI : xRI n ph) (hA : kAg i N) : ∃ ph2, xRI (n + 1) ph2 ∧ pm_Se (kK2 xs N) false (pm_Rd kK false 600) 0 (1184, kL2 i a b d, [], ph, c, s) (23, kL2 (i + Int32.ofInt 5) a b d, [], ph2, c, s) := by
  obtain ⟨v1, v2, ph1, ph2, ⟨⟨f1, e1⟩, f2, e2⟩, r1, r2, ⟨⟨x, rfl⟩, y, rfl⟩, hI2⟩ := H n hn ph hI
  refine ⟨ph2, hI2, ?_⟩
  refine .step (ks2 (n := 1) (v := .ref 0) (kcL (e := (2, .aload_n kF1, 0)) rfl) rfl) ?_
  refine karg2 _ (hA 1 (by decide) (by decide)) rfl rfl rfl rfl rfl ?_
  refine karg2 _ (hA 2 (by decide) (by decide)) rfl rfl rfl rfl rfl ?_
  refine karg2 _ (hA 3 (by decide) (by decide)) rfl rfl rfl rfl rfl ?_
  refine .call (j := 171) (as := [.ref 0, .int (xs (i + Int32.ofInt 1).toNatClampNeg), .int (xs (i + Int32.ofInt 2).toNatClampNeg), .int (xs (i + Int32.ofInt 3).toNatClampNeg)]) (ks6 (r0 := []) (kcL (e := (6, .invokevirtual 184, 0)) rfl) (xinvV (j := 171) (n := 3) (ci := 12) rfl rfl e1 rfl rfl)) r1 ?_
  refine .step (ks0 (st' := []) (kcL (e := (0, .pop, 0)) rfl) rfl) ?_
  refine .step (ks2 (n := 1) (v := .ref 170) (kcL (e := (2, .aload_n kF2, 0)) rfl) rfl) ?_
  refine karg2 _ (hA 1 (by decide) (by decide)) rfl rfl rfl rfl rfl ?_
  refine karg2 _ (hA 2 (by decide) (by decide)) rfl rfl rfl rfl rfl ?_
  refine karg2 _ (hA 3 (by decide) (by decide)) rfl rfl rfl rfl rfl ?_
  refine .call (j := 288) (as := [.ref 170, .int (xs (i + Int32.ofInt 1).toNatClampNeg), .int (xs (i + Int32.ofInt 2).toNatClampNeg), .int (xs (i + Int32.ofInt 3).toNatClampNeg)]) (ks6 (r0 := []) (kcL (e := (6, .invokevirtual 188, 0)) rfl) (xinvV (j := 288) (n := 3) (ci := 13) rfl rfl e2 rfl rfl)) r2 ?_
  refine .step (ks0 (st' := []) (kcL (e := (0, .pop, 0)) rfl) rfl) ?_
  exact .step (ks4 (pc' := 1448) (st' := []) (kcL (e := (4, .goto 218, 1448)) rfl) rfl) kend
theorem kca_39 (H : xRs 172 289 [.int (xs (i + Int32.ofInt 1).toNatClampNeg), .int (xs (i + Int32.ofInt 2).toNatClampNeg)] (fun a b => kI a ∧ kI b)) (hn : n ≤ 512) (hI : xRI n ph) (hA : kAg i N) : ∃ ph2, xRI (n + 1) ph2 ∧ pm_Se (kK2 xs N) false (pm_Rd kK false 600) 0 (1233, kL2 i a b d, [], ph, c, s) (23, kL2 (i + Int32.ofInt 5) a b d, [], ph2, c, s) := by
  obtain ⟨v1, v2, ph1, ph2, ⟨⟨f1, e1⟩, f2, e2⟩, r1, r2, ⟨⟨x, rfl⟩, y, rfl⟩, hI2⟩ := H n hn ph hI
  refine ⟨ph2, hI2, ?_⟩
  refine .step (ks2 (n := 1) (v := .ref 0) (kcL (e := (2, .aload_n kF1, 0)) rfl) rfl) ?_
  refine karg2 _ (hA 1 (by decide) (by decide)) rfl rfl rfl rfl rfl ?_
  refine karg2 _ (hA 2 (by decide) (by decide)) rfl rfl rfl rfl rfl ?_
  refine .call (j := 172) (as := [.ref 0, .int (xs (i + Int32.ofInt 1).toNatClampNeg), .int (xs (i + Int32.ofInt 2).toNatClampNeg)]) (ks6 (r0 := []) (kcL (e := (6, .invokevirtual 189, 0)) rfl) (xinvV (j := 172) (n := 2) (ci := 12) rfl rfl e1 rfl rfl)) r1 ?_
  refine .step (ks0 (st' := []) (kcL (e := (0, .pop, 0)) rfl) rfl) ?_
  refine .step (ks2 (n := 1) (v := .ref 170) (kcL (e := (2, .aload_n kF2, 0)) rfl) rfl) ?_
  refine karg2 _ (hA 1 (by decide) (by decide)) rfl rfl rfl rfl rfl ?_
  refine karg2 _ (hA 2 (by decide) (by decide)) rfl rfl rfl rfl rfl ?_
  refine .call (j := 289) (as := [.ref 170, .int (xs (i + Int32.ofInt 1).toNatClampNeg), .int (xs (i + Int32.ofInt 2).toNatClampNeg)]) (ks6 (r0 := []) (kcL (e := (6, .invokevirtual 192, 0)) rfl) (xinvV (j := 289) (n := 2) (ci := 13) rfl rfl e2 rfl rfl)) r2 ?_
  refine .step (ks0 (st' := []) (kcL (e := (0, .pop, 0)) rfl) rfl) ?_
  exact .step (ks4 (pc' := 1448) (st' := []) (kcL (e := (4, .goto 181, 1448)) rfl) rfl) kend
theorem kca_40 (H : xRs 173 290 [] (fun a b => kI a ∧ kI b)) (hn : n ≤ 512) (hI : xRI n ph) (hA : kAg i N) : ∃ ph2, xRI (n + 1) ph2 ∧ pm_Se (kK2 xs N) false (pm_Rd kK false 600) 0 (1270, kL2 i a b d, [], ph, c, s) (23, kL2 (i + Int32.ofInt 5) a b d, [], ph2, c, s) := by
  obtain ⟨v1, v2, ph1, ph2, ⟨⟨f1, e1⟩, f2, e2⟩, r1, r2, ⟨⟨x, rfl⟩, y, rfl⟩, hI2⟩ := H n hn ph hI
  refine ⟨ph2, hI2, ?_⟩
  refine .step (ks2 (n := 1) (v := .ref 0) (kcL (e := (2, .aload_n kF1, 0)) rfl) rfl) ?_
  refine .call (j := 173) (as := [.ref 0]) (ks6 (r0 := []) (kcL (e := (6, .invokevirtual 193, 0)) rfl) (xinvV (j := 173) (n := 0) (ci := 12) rfl rfl e1 rfl rfl)) r1 ?_
  refine .step (ks0 (st' := []) (kcL (e := (0, .pop, 0)) rfl) rfl) ?_
  refine .step (ks2 (n := 1) (v := .ref 170) (kcL (e := (2, .aload_n kF2, 0)) rfl) rfl) ?_
  refine .call (j := 290) (as := [.ref 170]) (ks6 (r0 := []) (kcL (e := (6, .invokevirtual 196, 0)) rfl) (xinvV (j := 290) (n := 0) (ci := 13) rfl rfl e2 rfl rfl)) r2 ?_
  refine .step (ks0 (st' := []) (kcL (e := (0, .pop, 0)) rfl) rfl) ?_
  exact .step (ks4 (pc' := 1448) (st' := []) (kcL (e := (4, .goto 168, 1448)) rfl) rfl) kend
theorem kca_41 (H : xRs 174 293 [.int (xs (i + Int32.ofInt 1).toNatClampNeg)] (fun a b => kI a ∧ kI b)) (hn : n ≤ 512) (hI : xRI n ph) (hA : kAg i N) : ∃ ph2, xRI (n + 1) ph2 ∧ pm_Se (kK2 xs N) false (pm_Rd kK false 600) 0 (1283, kL2 i a b d, [], ph, c, s) (23, kL2 (i + Int32.ofInt 5) a b d, [], ph2, c, s) := by
  obtain ⟨v1, v2, ph1, ph2, ⟨⟨f1, e1⟩, f2, e2⟩, r1, r2, ⟨⟨x, rfl⟩, y, rfl⟩, hI2⟩ := H n hn ph hI
  refine ⟨ph2, hI2, ?_⟩
  refine .step (ks2 (n := 1) (v := .ref 0) (kcL (e := (2, .aload_n kF1, 0)) rfl) rfl) ?_
  refine karg2 _ (hA 1 (by decide) (by decide)) rfl rfl rfl rfl rfl ?_
  refine .call (j := 174) (as := [.ref 0, .int (xs (i + Int32.ofInt 1).toNatClampNeg)]) (ks6 (r0 := []) (kcL (e := (6, .invokevirtual 197, 0)) rfl) (xinvV (j := 174) (n := 1) (ci := 12) rfl rfl e1 rfl rfl)) r1 ?_
  refine .step (ks0 (st' := []) (kcL (e := (0, .pop, 0)) rfl) rfl) ?_
  refine .step (ks2 (n := 1) (v := .ref 170) (kcL (e := (2, .aload_n kF2, 0)) rfl) rfl) ?_
  refine karg2 _ (hA 1 (by decide) (by decide)) rfl rfl rfl rfl rfl ?_
  refine .call (j := 293) (as := [.ref 170, .int (xs (i + Int32.ofInt 1).toNatClampNeg)]) (ks6 (r0 := []) (kcL (e := (6, .invokevirtual 200, 0)) rfl) (xinvV (j := 293) (n := 1) (ci := 13) rfl rfl e2 rfl rfl)) r2 ?_
  refine .step (ks0 (st' := []) (kcL (e := (0, .pop, 0)) rfl) rfl) ?_
  exact .step (ks4 (pc' := 1448) (st' := []) (kcL (e := (4, .goto 143, 1448)) rfl) rfl) kend
theorem kca_42 (H : xRs 175 295 [.int (xs (i + Int32.ofInt 1).toNatClampNeg), .int (xs (i + Int32.ofInt 2).toNatClampNeg)] (fun a b => kI a ∧ kI b)) (hn : n ≤ 512) (hI : xRI n ph) (hA : kAg i N) : ∃ ph2, xRI (n + 1) ph2 ∧ pm_Se (kK2 xs N) false (pm_Rd kK false 600) 0 (1308, kL2 i a b d, [], ph, c, s) (23, kL2 (i + Int32.ofInt 5) a b d, [], ph2, c, s) := by
  obtain ⟨v1, v2, ph1, ph2, ⟨⟨f1, e1⟩, f2, e2⟩, r1, r2, ⟨⟨x, rfl⟩, y, rfl⟩, hI2⟩ := H n hn ph hI
  refine ⟨ph2, hI2, ?_⟩
  refine .step (ks2 (n := 1) (v := .ref 0) (kcL (e := (2, .aload_n kF1, 0)) rfl) rfl) ?_
  refine karg2 _ (hA 1 (by decide) (by decide)) rfl rfl rfl rfl rfl ?_
  refine karg2 _ (hA 2 (by decide) (by decide)) rfl rfl rfl rfl rfl ?_
  refine .call (j := 175) (as := [.ref 0, .int (xs (i + Int32.ofInt 1).toNatClampNeg), .int (xs (i + Int32.ofInt 2).toNatClampNeg)]) (ks6 (r0 := []) (kcL (e := (6, .invokevirtual 201, 0)) rfl) (xinvV (j := 175) (n := 2) (ci := 12) rfl rfl e1 rfl rfl)) r1 ?_
  refine .step (ks0 (st' := []) (kcL (e := (0, .pop, 0)) rfl) rfl) ?_
  refine .step (ks2 (n := 1) (v := .ref 170) (kcL (e := (2, .aload_n kF2, 0)) rfl) rfl) ?_
  refine karg2 _ (hA 1 (by decide) (by decide)) rfl rfl rfl rfl rfl ?_
  refine karg2 _ (hA 2 (by decide) (by decide)) rfl rfl rfl rfl rfl ?_
  refine .call (j := 295) (as := [.ref 170, .int (xs (i + Int32.ofInt 1).toNatClampNeg), .int (xs (i + Int32.ofInt 2).toNatClampNeg)]) (ks6 (r0 := []) (kcL (e := (6, .invokevirtual 204, 0)) rfl) (xinvV (j := 295) (n := 2) (ci := 13) rfl rfl e2 rfl rfl)) r2 ?_
  refine .step (ks0 (st' := []) (kcL (e := (0, .pop, 0)) rfl) rfl) ?_
  exact .step (ks4 (pc' := 1448) (st' := []) (kcL (e := (4, .goto 106, 1448)) rfl) rfl) kend
theorem kca_43 (H : xRs 177 296 [.int (xs (i + Int32.ofInt 1).toNatClampNeg)] (fun a b => kI a ∧ kI b)) (hn : n ≤ 512) (hI : xRI n ph) (hA : kAg i N) : ∃ ph2, xRI (n + 1) ph2 ∧ pm_Se (kK2 xs N) false (pm_Rd kK false 600) 0 (1345, kL2 i a b d, [], ph, c, s) (23, kL2 (i + Int32.ofInt 5) a b d, [], ph2, c, s) := by
  obtain ⟨v1, v2, ph1, ph2, ⟨⟨f1, e1⟩, f2, e2⟩, r1, r2, ⟨⟨x, rfl⟩, y, rfl⟩, hI2⟩ := H n hn ph hI
  refine ⟨ph2, hI2, ?_⟩
  refine .step (ks2 (n := 1) (v := .ref 0) (kcL (e := (2, .aload_n kF1, 0)) rfl) rfl) ?_
  refine karg2 _ (hA 1 (by decide) (by decide)) rfl rfl rfl rfl rfl ?_
  refine .call (j := 177) (as := [.ref 0, .int (xs (i + Int32.ofInt 1).toNatClampNeg)]) (ks6 (r0 := []) (kcL (e := (6, .invokevirtual 205, 0)) rfl) (xinvV (j := 177) (n := 1) (ci := 12) rfl rfl e1 rfl rfl)) r1 ?_
  refine .step (ks0 (st' := []) (kcL (e := (0, .pop, 0)) rfl) rfl) ?_
  refine .step (ks2 (n := 1) (v := .ref 170) (kcL (e := (2, .aload_n kF2, 0)) rfl) rfl) ?_
  refine karg2 _ (hA 1 (by decide) (by decide)) rfl rfl rfl rfl rfl ?_
  refine .call (j := 296) (as := [.ref 170, .int (xs (i + Int32.ofInt 1).toNatClampNeg)]) (ks6 (r0 := []) (kcL (e := (6, .invokevirtual 208, 0)) rfl) (xinvV (j := 296) (n := 1) (ci := 13) rfl rfl e2 rfl rfl)) r2 ?_
  refine .step (ks0 (st' := []) (kcL (e := (0, .pop, 0)) rfl) rfl) ?_
  exact .step (ks4 (pc' := 1448) (st' := []) (kcL (e := (4, .goto 81, 1448)) rfl) rfl) kend
theorem kca_44 (H : xRs 178 297 [.int (xs (i + Int32.ofInt 1).toNatClampNeg)] (fun a b => kI a ∧ a = b)) (hn : n ≤ 512) (hI : xRI n ph) (hA : kAg i N) : ∃ ph2, xRI (n + 1) ph2 ∧ pm_Se (kK2 xs N) false (pm_Rd kK false 600) 0 (1370, kL2 i a b d, [], ph, c, s) (23, kL2 (i + Int32.ofInt 5) a b d, [], ph2, c, s) := by
  obtain ⟨v1, v2, ph1, ph2, ⟨⟨f1, e1⟩, f2, e2⟩, r1, r2, ⟨⟨x, rfl⟩, rfl⟩, hI2⟩ := H n hn ph hI
  refine ⟨ph2, hI2, ?_⟩
  refine .step (ks2 (n := 1) (v := .ref 0) (kcL (e := (2, .aload_n kF1, 0)) rfl) rfl) ?_
  refine karg2 _ (hA 1 (by decide) (by decide)) rfl rfl rfl rfl rfl ?_
  refine .call (j := 178) (as := [.ref 0, .int (xs (i + Int32.ofInt 1).toNatClampNeg)]) (ks6 (r0 := []) (kcL (e := (6, .invokevirtual 209, 0)) rfl) (xinvV (j := 178) (n := 1) (ci := 12) rfl rfl e1 rfl rfl)) r1 ?_
  refine .step (ks2 (n := 1) (v := .ref 170) (kcL (e := (2, .aload_n kF2, 0)) rfl) rfl) ?_
  refine karg2 _ (hA 1 (by decide) (by decide)) rfl rfl rfl rfl rfl ?_
  refine .call (j := 297) (as := [.ref 170, .int (xs (i + Int32.ofInt 1).toNatClampNeg)]) (ks6 (r0 := [.int x]) (kcL (e := (6, .invokevirtual 212, 0)) rfl) (xinvV (j := 297) (n := 1) (ci := 13) rfl rfl e2 rfl rfl)) r2 ?_
  exact .step (ks4 (pc' := 1448) (st' := []) (kcL (e := (4, .if_icmp .eq 58, 1448)) rfl) kbe) kend
theorem kca_45 (H : xRs 179 298 [.int (xs (i + Int32.ofInt 1).toNatClampNeg)] (fun a b => kI a ∧ kI b)) (hn : n ≤ 512) (hI : xRI n ph) (hA : kAg i N) : ∃ ph2, xRI (n + 1) ph2 ∧ pm_Se (kK2 xs N) false (pm_Rd kK false 600) 0 (1395, kL2 i a b d, [], ph, c, s) (23, kL2 (i + Int32.ofInt 5) a b d, [], ph2, c, s) := by
  obtain ⟨v1, v2, ph1, ph2, ⟨⟨f1, e1⟩, f2, e2⟩, r1, r2, ⟨⟨x, rfl⟩, y, rfl⟩, hI2⟩ := H n hn ph hI
  refine ⟨ph2, hI2, ?_⟩
  refine .step (ks2 (n := 1) (v := .ref 0) (kcL (e := (2, .aload_n kF1, 0)) rfl) rfl) ?_
  refine karg2 _ (hA 1 (by decide) (by decide)) rfl rfl rfl rfl rfl ?_
  refine .call (j := 179) (as := [.ref 0, .int (xs (i + Int32.ofInt 1).toNatClampNeg)]) (ks6 (r0 := []) (kcL (e := (6, .invokevirtual 213, 0)) rfl) (xinvV (j := 179) (n := 1) (ci := 12) rfl rfl e1 rfl rfl)) r1 ?_
  refine .step (ks0 (st' := []) (kcL (e := (0, .pop, 0)) rfl) rfl) ?_
  refine .step (ks2 (n := 1) (v := .ref 170) (kcL (e := (2, .aload_n kF2, 0)) rfl) rfl) ?_
  refine karg2 _ (hA 1 (by decide) (by decide)) rfl rfl rfl rfl rfl ?_
  refine .call (j := 298) (as := [.ref 170, .int (xs (i + Int32.ofInt 1).toNatClampNeg)]) (ks6 (r0 := []) (kcL (e := (6, .invokevirtual 216, 0)) rfl) (xinvV (j := 298) (n := 1) (ci := 13) rfl rfl e2 rfl rfl)) r2 ?_
  refine .step (ks0 (st' := []) (kcL (e := (0, .pop, 0)) rfl) rfl) ?_
  exact .step (ks4 (pc' := 1448) (st' := []) (kcL (e := (4, .goto 31, 1448)) rfl) rfl) kend
end KCS
theorem knpT {j : Nat} {kc : List (List (Nat × Nat × Instr × Nat))} (hk : ∀ pc, pm_code kK j pc = pm_tl kc pc) (h : ∀ c ∈ kc, ∀ q ∈ c, pm_npf q.2.2.1 = true ∧ Nat.beq q.2.1 8 = false) : ∀ pc g ins aux, pm_code kK j pc = some (g, ins, aux) → (∀ i, ins ≠ .putfield i) ∧ g ≠ 8 := by
  intro pc g ins aux h1
  rw [hk] at h1
  obtain ⟨c, hc, hq⟩ := pm_tl_mem h1
  obtain ⟨h2, h3⟩ := h c hc _ hq
  exact ⟨fun i e => (by subst e; cases h2), fun e => (by subst e; cases h3)⟩
section KT4
variable {p : Program} {l : Launch} {e : Env} {s : State} {m : MethodId} {below : List Frame} {meth : Method} {c : Code} {b L n : Nat} {xs : Nat → Int32} {D : va_G} {dA : Nat → ClassId} {ra : Nat → Nat} {i : Int32} {a5 a6 a7 : Option Value} {ph : pm_H} {cs ss : Nat} {Q : State → Prop}
theorem xRI_out {y : Int64} (h : xRI n ph) : ∃ l : List Int64, pm_at ph 201 = some (.inl (2, .inr (.inl l))) ∧ 0 < l.length ∧ xRI n (ph.set 201 (.inl (2, .inr (.inl (l.set 0 y))))) := by
  obtain ⟨l, h1, h2, h3, h4⟩ := kout h.1 y
  obtain ⟨hP, z, hR⟩ := h
  exact ⟨l, h1, h2, h3, z, xRE_q h3 (xu0_E (i := 87) (xLE_G8 n) h4 rfl (by decide) hR.1) (fun a k t => by
    unfold zc
    rw [h4.2 a (zP_201 t)]) hR⟩
theorem knp_129 : ∀ c ∈ kc_129, ∀ q ∈ c, pm_npf q.2.2.1 = true ∧ Nat.beq q.2.1 8 = false := by decide +kernel
theorem kpre_person {cs ss : Nat} (hA : kAg i L) : pm_Se (kK2 xs L) false (pm_Rd kK false 600) 0 (355, kL2 i a5 a6 a7, [], ph, cs, ss) (369, kL2 i a5 a6 a7, [.ref 201, .int (xs (i + Int32.ofInt 2).toNatClampNeg), .int (xs (i + Int32.ofInt 1).toNatClampNeg), .ref 0], ph, cs, ss) := by
  refine .step (ks2 (n := 1) (v := .ref 0) (kcL (e := (2, .aload_n kF1, 0)) rfl) rfl) ?_
  refine karg2 _ (hA 1 (by decide) (by decide)) rfl rfl rfl rfl rfl ?_
  refine karg2 _ (hA 2 (by decide) (by decide)) rfl rfl rfl rfl rfl ?_
  exact .step (ks2 (n := 1) (v := .ref 201) (kcL (e := (2, .aload_n kF3, 0)) rfl) rfl) .rf
theorem kpost_person {cs ss : Nat} {k : Int32} (hn : n ≤ 512) (hI : xRI n ph) (hA : kAg i L) : ∃ (x5 x6 x7 : Option Value) (ph2 : pm_H), xRI (n + 1) ph2 ∧ pm_Se (kK2 xs L) false (pm_Rd kK false 600) 0 (372, kL2 i a5 a6 a7, [.int k], ph, cs, ss) (23, kL2 (i + Int32.ofInt 5) x5 x6 x7, [], ph2, cs, ss) := by
  obtain ⟨f, e1⟩ := xat170 hI.1
  obtain ⟨z9, hz9⟩ := hI.2
  obtain ⟨v, ph2, r2, ⟨x, rfl⟩, hI21, hI22⟩ := xrm_person n hn z9 ph hI.1 hz9
  have hI2 : xRI (n + 1) ph2 := ⟨hI21, z9, hI22⟩
  refine ⟨some (.int k), some (.int x), a7, ph2, hI2, ?_⟩
  refine .step (ks3 (n := 2) (L' := kL2 i (some (.int k)) a6 a7) (st' := []) (kcL (e := (3, .istore 5, 0)) rfl) rfl) ?_
  refine .step (ks2 (n := 1) (v := .ref 170) (kcL (e := (2, .aload_n kF2, 0)) rfl) rfl) ?_
  refine karg2 _ (hA 1 (by decide) (by decide)) rfl rfl rfl rfl rfl ?_
  refine karg2 _ (hA 2 (by decide) (by decide)) rfl rfl rfl rfl rfl ?_
  refine .call (j := 235) (as := [.ref 170, .int (xs (i + Int32.ofInt 1).toNatClampNeg), .int (xs (i + Int32.ofInt 2).toNatClampNeg)]) (ks6 (r0 := []) (kcL (e := (6, .invokevirtual 62, 0)) rfl) (xinvV (j := 235) (n := 2) (ci := 13) rfl rfl e1 rfl rfl)) r2 ?_
  refine .step (ks3 (n := 2) (L' := kL2 i (some (.int k)) (some (.int x)) a7) (st' := []) (kcL (e := (3, .istore 6, 0)) rfl) rfl) ?_
  exact .step (ks4 (pc' := 1448) (st' := []) (kcL (e := (4, .goto 1056, 1448)) rfl) rfl) kend
theorem kcase_person (hl : l.stackTraces = false) (F : kFx p s m meth c b L xs D dA ra) (Z : kTs s.heap.size s s.heap) (hc : cs ≤ 600524) (hs : ss ≤ 7292534) (hn : n ≤ 512) (hI : xRI n ph) (hA : kAg i L) (kk : ∀ (x5 x6 x7 : Option Value) (ph2 : pm_H), xRI (n + 1) ph2 → kW p l e s m below meth c b D dA ra false Q (23, kL2 (i + Int32.ofInt 5) x5 x6 x7, [], ph2, cs + 1, ss + 6)) : kW p l e s m below meth c b D dA ra false Q (355, kL2 i a5 a6 a7, [], ph, cs, ss) := by
  refine kW_se F (by decide) (kpre_person hA) (show cs ≤ 601024 by omega) (show ss ≤ 7293034 by omega) ?_
  have fin : ∀ (k : Int32) (ph1 : pm_H), xRI n ph1 → kW p l e s m below meth c b D dA ra false Q (372, kL2 i a5 a6 a7, [.int k], ph1, cs + 1, ss + 6) := fun k ph1 h1 => by
    obtain ⟨x5, x6, x7, ph2, h2, h3⟩ := kpost_person (a5 := a5) (a6 := a6) (a7 := a7) (cs := cs + 1) (ss := ss + 6) (k := k) (xs := xs) hn h1 hA
    exact kW_se F (by decide) h3 (show cs + 1 ≤ 601024 by omega) (show ss + 6 ≤ 7293034 by omega) (kk x5 x6 x7 ph2 h2)
  have hat := xat0 hI.1
  obtain ⟨fs, hat⟩ := hat
  obtain ⟨z9, hz9⟩ := hI.2
  rcases xcl_person (xEq_G (n := n) (z := z9) (ph := ph)) (xEq_C hI.1 hz9) (xLm_le (by omega)) xLm_0 (D := 500) (by decide) (p := (xs (i + Int32.ofInt 1).toNatClampNeg)) (y := (xs (i + Int32.ofInt 2).toNatClampNeg)) hI.1 (xEq_0 hI.1 hz9) with ⟨r, ph1, h1, h2, h3⟩ | HT
  · obtain ⟨l1, g1, g2, g3⟩ := xRI_out (n := n) (y := r.toInt64) ⟨h2, z9, xEq_R hI.1 h2 hz9 h3⟩
    have hM := knorm (D := D) (dA := dA) (B := s.heap.size) (ra := ra) (hh := [(0, 10, 13, 13)]) l (y := (⟨"BonnetValleyLaw", "person", "(LBonnetValley;II[J)I"⟩ : MethodName)) (as := [.ref 0, .int (xs (i + Int32.ofInt 1).toNatClampNeg), .int (xs (i + Int32.ofInt 2).toNatClampNeg), .ref 201]) rfl rfl kRo_person rfl (kRr_person (m := 0) (w := 0) hat h1 g1 g2) (by decide +kernel)
    exact kW_help (ix := 57) (n := 4) (as := [.ref 0, .int (xs (i + Int32.ofInt 1).toNatClampNeg), .int (xs (i + Int32.ofInt 2).toNatClampNeg), .ref 201]) (r := []) F Z hM rfl (by decide) (by decide +kernel) (kvin_ok (by decide +kernel)) (kvin_ok (by decide +kernel)) (kvin_ok (by decide +kernel)) (kvin_ok (by decide +kernel)) (by decide +kernel) (by decide) (by decide) (by omega) (by omega) (fin _ _ g3)
  · obtain ⟨pc9, hpc, n9, hn9⟩ := HT
    rcases hpc with rfl | rfl
    · have hx := kthrow (D := D) (dA := dA) (B := s.heap.size) (ra := ra) l hl (d := 500) (mj := 129) (as := [.ref 0, .int (xs (i + Int32.ofInt 1).toNatClampNeg), .int (xs (i + Int32.ofInt 2).toNatClampNeg)]) (Qc := va_Qi (S := Unit) (fun _ _ => False) (fun _ _ => True) (fun q => s.heap.size ≤ q)) rfl hn9 (by decide) ⟨_, rfl⟩ (by decide +kernel) (knpT (kc := kc_129) (fun _ => rfl) knp_129) (by decide +kernel) (by decide +kernel) (by decide +kernel) (by decide +kernel)
      have hM := khelp2 (ph := ph) l (y := (⟨"BonnetValleyLaw", "person", "(LBonnetValley;II[J)I"⟩ : MethodName)) (bytes := method_3_code) (ix := 7) (jx := 129) (d := 501) hat (by decide +kernel) rfl (by decide) (by decide +kernel) (by decide +kernel) (by decide +kernel) (by decide +kernel) (by decide +kernel) (by decide +kernel) (by decide +kernel) (by decide +kernel) (by decide +kernel) ⟨_, rfl⟩ (by decide +kernel) (kvin_ok (by decide +kernel)) (kvin_ok (by decide +kernel)) (kvin_ok (by decide +kernel)) (by decide +kernel) hx
      exact kW_help (ix := 57) (n := 4) (as := [.ref 0, .int (xs (i + Int32.ofInt 1).toNatClampNeg), .int (xs (i + Int32.ofInt 2).toNatClampNeg), .ref 201]) (r := []) F Z hM rfl (by decide) (by decide +kernel) (kvin_ok (by decide +kernel)) (kvin_ok (by decide +kernel)) (kvin_ok (by decide +kernel)) (kvin_ok (by decide +kernel)) (by decide +kernel) (by decide) (by decide) (by omega) (by omega) (fin _ _ hI)
    · have hx := kthrow (D := D) (dA := dA) (B := s.heap.size) (ra := ra) l hl (d := 500) (mj := 129) (as := [.ref 0, .int (xs (i + Int32.ofInt 1).toNatClampNeg), .int (xs (i + Int32.ofInt 2).toNatClampNeg)]) (Qc := va_Qi (S := Unit) (fun _ _ => False) (fun _ _ => True) (fun q => s.heap.size ≤ q)) rfl hn9 (by decide) ⟨_, rfl⟩ (by decide +kernel) (knpT (kc := kc_129) (fun _ => rfl) knp_129) (by decide +kernel) (by decide +kernel) (by decide +kernel) (by decide +kernel)
      have hM := khelp2 (ph := ph) l (y := (⟨"BonnetValleyLaw", "person", "(LBonnetValley;II[J)I"⟩ : MethodName)) (bytes := method_3_code) (ix := 7) (jx := 129) (d := 501) hat (by decide +kernel) rfl (by decide) (by decide +kernel) (by decide +kernel) (by decide +kernel) (by decide +kernel) (by decide +kernel) (by decide +kernel) (by decide +kernel) (by decide +kernel) (by decide +kernel) ⟨_, rfl⟩ (by decide +kernel) (kvin_ok (by decide +kernel)) (kvin_ok (by decide +kernel)) (kvin_ok (by decide +kernel)) (by decide +kernel) hx
      exact kW_help (ix := 57) (n := 4) (as := [.ref 0, .int (xs (i + Int32.ofInt 1).toNatClampNeg), .int (xs (i + Int32.ofInt 2).toNatClampNeg), .ref 201]) (r := []) F Z hM rfl (by decide) (by decide +kernel) (kvin_ok (by decide +kernel)) (kvin_ok (by decide +kernel)) (kvin_ok (by decide +kernel)) (kvin_ok (by decide +kernel)) (by decide +kernel) (by decide) (by decide) (by omega) (by omega) (fin _ _ hI)
theorem knp_130 : ∀ c ∈ kc_130, ∀ q ∈ c, pm_npf q.2.2.1 = true ∧ Nat.beq q.2.1 8 = false := by decide +kernel
theorem kpre_thing {cs ss : Nat} (hA : kAg i L) : pm_Se (kK2 xs L) false (pm_Rd kK false 600) 0 (395, kL2 i a5 a6 a7, [], ph, cs, ss) (409, kL2 i a5 a6 a7, [.ref 201, .int (xs (i + Int32.ofInt 2).toNatClampNeg), .int (xs (i + Int32.ofInt 1).toNatClampNeg), .ref 0], ph, cs, ss) := by
  refine .step (ks2 (n := 1) (v := .ref 0) (kcL (e := (2, .aload_n kF1, 0)) rfl) rfl) ?_
  refine karg2 _ (hA 1 (by decide) (by decide)) rfl rfl rfl rfl rfl ?_
  refine karg2 _ (hA 2 (by decide) (by decide)) rfl rfl rfl rfl rfl ?_
  exact .step (ks2 (n := 1) (v := .ref 201) (kcL (e := (2, .aload_n kF3, 0)) rfl) rfl) .rf
theorem kpost_thing {cs ss : Nat} {k : Int32} (hn : n ≤ 512) (hI : xRI n ph) (hA : kAg i L) : ∃ (x5 x6 x7 : Option Value) (ph2 : pm_H), xRI (n + 1) ph2 ∧ pm_Se (kK2 xs L) false (pm_Rd kK false 600) 0 (412, kL2 i a5 a6 a7, [.int k], ph, cs, ss) (23, kL2 (i + Int32.ofInt 5) x5 x6 x7, [], ph2, cs, ss) := by
  obtain ⟨f, e1⟩ := xat170 hI.1
  obtain ⟨z9, hz9⟩ := hI.2
  obtain ⟨v, ph2, r2, ⟨x, rfl⟩, hI21, hI22⟩ := xrm_thing n hn z9 ph hI.1 hz9
  have hI2 : xRI (n + 1) ph2 := ⟨hI21, z9, hI22⟩
  refine ⟨some (.int k), some (.int x), a7, ph2, hI2, ?_⟩
  refine .step (ks3 (n := 2) (L' := kL2 i (some (.int k)) a6 a7) (st' := []) (kcL (e := (3, .istore 5, 0)) rfl) rfl) ?_
  refine .step (ks2 (n := 1) (v := .ref 170) (kcL (e := (2, .aload_n kF2, 0)) rfl) rfl) ?_
  refine karg2 _ (hA 1 (by decide) (by decide)) rfl rfl rfl rfl rfl ?_
  refine karg2 _ (hA 2 (by decide) (by decide)) rfl rfl rfl rfl rfl ?_
  refine .call (j := 236) (as := [.ref 170, .int (xs (i + Int32.ofInt 1).toNatClampNeg), .int (xs (i + Int32.ofInt 2).toNatClampNeg)]) (ks6 (r0 := []) (kcL (e := (6, .invokevirtual 65, 0)) rfl) (xinvV (j := 236) (n := 2) (ci := 13) rfl rfl e1 rfl rfl)) r2 ?_
  refine .step (ks3 (n := 2) (L' := kL2 i (some (.int k)) (some (.int x)) a7) (st' := []) (kcL (e := (3, .istore 6, 0)) rfl) rfl) ?_
  exact .step (ks4 (pc' := 1448) (st' := []) (kcL (e := (4, .goto 1016, 1448)) rfl) rfl) kend
theorem kcase_thing (hl : l.stackTraces = false) (F : kFx p s m meth c b L xs D dA ra) (Z : kTs s.heap.size s s.heap) (hc : cs ≤ 600524) (hs : ss ≤ 7292534) (hn : n ≤ 512) (hI : xRI n ph) (hA : kAg i L) (kk : ∀ (x5 x6 x7 : Option Value) (ph2 : pm_H), xRI (n + 1) ph2 → kW p l e s m below meth c b D dA ra false Q (23, kL2 (i + Int32.ofInt 5) x5 x6 x7, [], ph2, cs + 1, ss + 6)) : kW p l e s m below meth c b D dA ra false Q (395, kL2 i a5 a6 a7, [], ph, cs, ss) := by
  refine kW_se F (by decide) (kpre_thing hA) (show cs ≤ 601024 by omega) (show ss ≤ 7293034 by omega) ?_
  have fin : ∀ (k : Int32) (ph1 : pm_H), xRI n ph1 → kW p l e s m below meth c b D dA ra false Q (412, kL2 i a5 a6 a7, [.int k], ph1, cs + 1, ss + 6) := fun k ph1 h1 => by
    obtain ⟨x5, x6, x7, ph2, h2, h3⟩ := kpost_thing (a5 := a5) (a6 := a6) (a7 := a7) (cs := cs + 1) (ss := ss + 6) (k := k) (xs := xs) hn h1 hA
    exact kW_se F (by decide) h3 (show cs + 1 ≤ 601024 by omega) (show ss + 6 ≤ 7293034 by omega) (kk x5 x6 x7 ph2 h2)
  have hat := xat0 hI.1
  obtain ⟨fs, hat⟩ := hat
  obtain ⟨z9, hz9⟩ := hI.2
  rcases xcl_thing (xEq_G (n := n) (z := z9) (ph := ph)) (xEq_C hI.1 hz9) (xLm_le (by omega)) xLm_0 (D := 500) (by decide) (p := (xs (i + Int32.ofInt 1).toNatClampNeg)) (y := (xs (i + Int32.ofInt 2).toNatClampNeg)) hI.1 (xEq_0 hI.1 hz9) with ⟨r, ph1, h1, h2, h3⟩ | HT
  · obtain ⟨l1, g1, g2, g3⟩ := xRI_out (n := n) (y := r.toInt64) ⟨h2, z9, xEq_R hI.1 h2 hz9 h3⟩
    have hM := knorm (D := D) (dA := dA) (B := s.heap.size) (ra := ra) (hh := [(0, 10, 13, 13)]) l (y := (⟨"BonnetValleyLaw", "thing", "(LBonnetValley;II[J)I"⟩ : MethodName)) (as := [.ref 0, .int (xs (i + Int32.ofInt 1).toNatClampNeg), .int (xs (i + Int32.ofInt 2).toNatClampNeg), .ref 201]) rfl rfl kRo_thing rfl (kRr_thing (m := 0) (w := 0) hat h1 g1 g2) (by decide +kernel)
    exact kW_help (ix := 63) (n := 4) (as := [.ref 0, .int (xs (i + Int32.ofInt 1).toNatClampNeg), .int (xs (i + Int32.ofInt 2).toNatClampNeg), .ref 201]) (r := []) F Z hM rfl (by decide) (by decide +kernel) (kvin_ok (by decide +kernel)) (kvin_ok (by decide +kernel)) (kvin_ok (by decide +kernel)) (kvin_ok (by decide +kernel)) (by decide +kernel) (by decide) (by decide) (by omega) (by omega) (fin _ _ g3)
  · obtain ⟨pc9, hpc, n9, hn9⟩ := HT
    rcases hpc with rfl | rfl
    · have hx := kthrow (D := D) (dA := dA) (B := s.heap.size) (ra := ra) l hl (d := 500) (mj := 130) (as := [.ref 0, .int (xs (i + Int32.ofInt 1).toNatClampNeg), .int (xs (i + Int32.ofInt 2).toNatClampNeg)]) (Qc := va_Qi (S := Unit) (fun _ _ => False) (fun _ _ => True) (fun q => s.heap.size ≤ q)) rfl hn9 (by decide) ⟨_, rfl⟩ (by decide +kernel) (knpT (kc := kc_130) (fun _ => rfl) knp_130) (by decide +kernel) (by decide +kernel) (by decide +kernel) (by decide +kernel)
      have hM := khelp2 (ph := ph) l (y := (⟨"BonnetValleyLaw", "thing", "(LBonnetValley;II[J)I"⟩ : MethodName)) (bytes := method_4_code) (ix := 15) (jx := 130) (d := 501) hat (by decide +kernel) rfl (by decide) (by decide +kernel) (by decide +kernel) (by decide +kernel) (by decide +kernel) (by decide +kernel) (by decide +kernel) (by decide +kernel) (by decide +kernel) (by decide +kernel) ⟨_, rfl⟩ (by decide +kernel) (kvin_ok (by decide +kernel)) (kvin_ok (by decide +kernel)) (kvin_ok (by decide +kernel)) (by decide +kernel) hx
      exact kW_help (ix := 63) (n := 4) (as := [.ref 0, .int (xs (i + Int32.ofInt 1).toNatClampNeg), .int (xs (i + Int32.ofInt 2).toNatClampNeg), .ref 201]) (r := []) F Z hM rfl (by decide) (by decide +kernel) (kvin_ok (by decide +kernel)) (kvin_ok (by decide +kernel)) (kvin_ok (by decide +kernel)) (kvin_ok (by decide +kernel)) (by decide +kernel) (by decide) (by decide) (by omega) (by omega) (fin _ _ hI)
    · have hx := kthrow (D := D) (dA := dA) (B := s.heap.size) (ra := ra) l hl (d := 500) (mj := 130) (as := [.ref 0, .int (xs (i + Int32.ofInt 1).toNatClampNeg), .int (xs (i + Int32.ofInt 2).toNatClampNeg)]) (Qc := va_Qi (S := Unit) (fun _ _ => False) (fun _ _ => True) (fun q => s.heap.size ≤ q)) rfl hn9 (by decide) ⟨_, rfl⟩ (by decide +kernel) (knpT (kc := kc_130) (fun _ => rfl) knp_130) (by decide +kernel) (by decide +kernel) (by decide +kernel) (by decide +kernel)
      have hM := khelp2 (ph := ph) l (y := (⟨"BonnetValleyLaw", "thing", "(LBonnetValley;II[J)I"⟩ : MethodName)) (bytes := method_4_code) (ix := 15) (jx := 130) (d := 501) hat (by decide +kernel) rfl (by decide) (by decide +kernel) (by decide +kernel) (by decide +kernel) (by decide +kernel) (by decide +kernel) (by decide +kernel) (by decide +kernel) (by decide +kernel) (by decide +kernel) ⟨_, rfl⟩ (by decide +kernel) (kvin_ok (by decide +kernel)) (kvin_ok (by decide +kernel)) (kvin_ok (by decide +kernel)) (by decide +kernel) hx
      exact kW_help (ix := 63) (n := 4) (as := [.ref 0, .int (xs (i + Int32.ofInt 1).toNatClampNeg), .int (xs (i + Int32.ofInt 2).toNatClampNeg), .ref 201]) (r := []) F Z hM rfl (by decide) (by decide +kernel) (kvin_ok (by decide +kernel)) (kvin_ok (by decide +kernel)) (kvin_ok (by decide +kernel)) (kvin_ok (by decide +kernel)) (by decide +kernel) (by decide) (by decide) (by omega) (by omega) (fin _ _ hI)
theorem knp_180 : ∀ c ∈ kc_180, ∀ q ∈ c, pm_npf q.2.2.1 = true ∧ Nat.beq q.2.1 8 = false := by decide +kernel
theorem kpre_row {cs ss : Nat} (hA : kAg i L) : pm_Se (kK2 xs L) false (pm_Rd kK false 600) 0 (1420, kL2 i a5 a6 a7, [], ph, cs, ss) (1428, kL2 i a5 a6 a7, [.ref 201, .int (xs (i + Int32.ofInt 1).toNatClampNeg), .ref 0], ph, cs, ss) := by
  refine .step (ks2 (n := 1) (v := .ref 0) (kcL (e := (2, .aload_n kF1, 0)) rfl) rfl) ?_
  refine karg2 _ (hA 1 (by decide) (by decide)) rfl rfl rfl rfl rfl ?_
  exact .step (ks2 (n := 1) (v := .ref 201) (kcL (e := (2, .aload_n kF3, 0)) rfl) rfl) .rf
theorem kpost_row {cs ss : Nat} {k : Int32} (hn : n ≤ 512) (hI : xRI n ph) (hA : kAg i L) : ∃ (x5 x6 x7 : Option Value) (ph2 : pm_H), xRI (n + 1) ph2 ∧ pm_Se (kK2 xs L) false (pm_Rd kK false 600) 0 (1431, kL2 i a5 a6 a7, [.int k], ph, cs, ss) (23, kL2 (i + Int32.ofInt 5) x5 x6 x7, [], ph2, cs, ss) := by
  obtain ⟨f, e1⟩ := xat170 hI.1
  obtain ⟨z9, hz9⟩ := hI.2
  obtain ⟨v, ph2, r2, ⟨x, rfl⟩, hI21, hI22⟩ := xrm_row n hn z9 ph hI.1 hz9
  have hI2 : xRI (n + 1) ph2 := ⟨hI21, z9, hI22⟩
  refine ⟨some (.int k), some (.long x), none, ph2, hI2, ?_⟩
  refine .step (ks3 (n := 2) (L' := kL2 i (some (.int k)) a6 a7) (st' := []) (kcL (e := (3, .istore 5, 0)) rfl) rfl) ?_
  refine .step (ks2 (n := 1) (v := .ref 170) (kcL (e := (2, .aload_n kF2, 0)) rfl) rfl) ?_
  refine karg2 _ (hA 1 (by decide) (by decide)) rfl rfl rfl rfl rfl ?_
  refine .call (j := 299) (as := [.ref 170, .int (xs (i + Int32.ofInt 1).toNatClampNeg)]) (ks6 (r0 := []) (kcL (e := (6, .invokevirtual 220, 0)) rfl) (xinvV (j := 299) (n := 1) (ci := 13) rfl rfl e1 rfl rfl)) r2 ?_
  refine .step (ks3 (n := 2) (L' := kL2 i (some (.int k)) (some (.long x)) none) (st' := []) (kcL (e := (3, .lstore 6, 0)) rfl) rfl) ?_
  exact .step (ks4 (pc' := 1448) (st' := []) (kcL (e := (4, .goto 3, 1448)) rfl) rfl) kend
theorem kcase_row (hl : l.stackTraces = false) (F : kFx p s m meth c b L xs D dA ra) (Z : kTs s.heap.size s s.heap) (hc : cs ≤ 600524) (hs : ss ≤ 7292534) (hn : n ≤ 512) (hI : xRI n ph) (hA : kAg i L) (kk : ∀ (x5 x6 x7 : Option Value) (ph2 : pm_H), xRI (n + 1) ph2 → kW p l e s m below meth c b D dA ra false Q (23, kL2 (i + Int32.ofInt 5) x5 x6 x7, [], ph2, cs + 1, ss + 6)) : kW p l e s m below meth c b D dA ra false Q (1420, kL2 i a5 a6 a7, [], ph, cs, ss) := by
  refine kW_se F (by decide) (kpre_row hA) (show cs ≤ 601024 by omega) (show ss ≤ 7293034 by omega) ?_
  have fin : ∀ (k : Int32) (ph1 : pm_H), xRI n ph1 → kW p l e s m below meth c b D dA ra false Q (1431, kL2 i a5 a6 a7, [.int k], ph1, cs + 1, ss + 6) := fun k ph1 h1 => by
    obtain ⟨x5, x6, x7, ph2, h2, h3⟩ := kpost_row (a5 := a5) (a6 := a6) (a7 := a7) (cs := cs + 1) (ss := ss + 6) (k := k) (xs := xs) hn h1 hA
    exact kW_se F (by decide) h3 (show cs + 1 ≤ 601024 by omega) (show ss + 6 ≤ 7293034 by omega) (kk x5 x6 x7 ph2 h2)
  have hat := xat0 hI.1
  obtain ⟨fs, hat⟩ := hat
  obtain ⟨z9, hz9⟩ := hI.2
  rcases xcl_row (xEq_G (n := n) (z := z9) (ph := ph)) (xLm_le (by omega)) xLm_0 (D := 500) (by decide) (p := (xs (i + Int32.ofInt 1).toNatClampNeg)) hI.1 (xEq_0 hI.1 hz9) with ⟨r, ph1, h1, h2, h3⟩ | HT
  · obtain ⟨l1, g1, g2, g3⟩ := xRI_out (n := n) (y := r) ⟨h2, z9, xEq_R hI.1 h2 hz9 h3⟩
    have hM := knorm (D := D) (dA := dA) (B := s.heap.size) (ra := ra) (hh := [(0, 8, 11, 13)]) l (y := (⟨"BonnetValleyLaw", "row", "(LBonnetValley;I[J)I"⟩ : MethodName)) (as := [.ref 0, .int (xs (i + Int32.ofInt 1).toNatClampNeg), .ref 201]) rfl rfl kRo_row rfl (kRr_row (m := 0) (w := 0) hat h1 g1 g2) (by decide +kernel)
    exact kW_help (ix := 217) (n := 3) (as := [.ref 0, .int (xs (i + Int32.ofInt 1).toNatClampNeg), .ref 201]) (r := []) F Z hM rfl (by decide) (by decide +kernel) (kvin_ok (by decide +kernel)) (kvin_ok (by decide +kernel)) (kvin_ok (by decide +kernel)) (kvin_ok (by decide +kernel)) (by decide +kernel) (by decide) (by decide) (by omega) (by omega) (fin _ _ g3)
  · obtain ⟨n9, hn9⟩ := HT
    have hx := kthrow (D := D) (dA := dA) (B := s.heap.size) (ra := ra) l hl (d := 500) (mj := 180) (as := [.ref 0, .int (xs (i + Int32.ofInt 1).toNatClampNeg)]) (Qc := va_Ql (S := Unit) (fun _ _ => False) (fun _ _ => True) (fun q => s.heap.size ≤ q)) rfl hn9 (by decide) ⟨_, rfl⟩ (by decide +kernel) (knpT (kc := kc_180) (fun _ => rfl) knp_180) (by decide +kernel) (by decide +kernel) (by decide +kernel) (by decide +kernel)
    have hM := khelp1 (ph := ph) l (y := (⟨"BonnetValleyLaw", "row", "(LBonnetValley;I[J)I"⟩ : MethodName)) (bytes := method_5_code) (ix := 18) (jx := 180) (d := 501) hat (by decide +kernel) rfl (by decide) (by decide +kernel) (by decide +kernel) (by decide +kernel) (by decide +kernel) (by decide +kernel) (by decide +kernel) (by decide +kernel) (by decide +kernel) ⟨_, rfl⟩ (by decide +kernel) (kvin_ok (by decide +kernel)) (kvin_ok (by decide +kernel)) (kvin_ok (by decide +kernel)) (by decide +kernel) hx
    exact kW_help (ix := 217) (n := 3) (as := [.ref 0, .int (xs (i + Int32.ofInt 1).toNatClampNeg), .ref 201]) (r := []) F Z hM rfl (by decide) (by decide +kernel) (kvin_ok (by decide +kernel)) (kvin_ok (by decide +kernel)) (kvin_ok (by decide +kernel)) (kvin_ok (by decide +kernel)) (by decide +kernel) (by decide) (by decide) (by omega) (by omega) (fin _ _ hI)
end KT4
