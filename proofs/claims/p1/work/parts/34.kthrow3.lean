/-! The law's frame where a call throws, printed by wip/pm/gen19.py -/
def kLM (v5 v6 v7 : Option Value) : List (Option Value) := [some (.ref 1048581), some (.ref 0), some (.ref 170), some (.ref 201), some (.int (Int32.ofInt 0)), v5, v6, v7]
section KT3
variable {xs : Nat → Int32} {N pc aux : Nat} {st : List Value} {ph : pm_H} {c s : Nat}
theorem kGoal.argM {L : List (Option Value)} {z : Int} {q : Nat} (hL0 : pm_load (.aload_n kF0) L = some (.ref 1048581, 1)) (hL4 : pm_load (.iload 4) L = some (.int (Int32.ofInt 0), 2)) (hz : pm_inb (Int32.ofInt 0 + Int32.ofInt z) 5 = true) (hq : (Int32.ofInt 0 + Int32.ofInt z).toNatClampNeg = q) (h1 : pm_tl kc_L pc = some (2, .aload_n kF0, 0)) (h2 : pm_tl kc_L (pc + 1) = some (2, .iload 4, 0)) (h3 : pm_tl kc_L (pc + 3) = some (0, .iconst z, 0)) (h4 : pm_tl kc_L (pc + 4) = some (0, .iadd, 0)) (h5 : pm_tl kc_L (pc + 5) = some (5, .iaload, 0)) (kk : kGoal xs 5 (pc + 6) L (.int (xs q) :: st) ph c s) : kGoal xs 5 pc L st ph c s := by
  refine .step (ks2 (v := .ref 1048581) (n := 1) (kcL h1) hL0) ?_
  refine .step (ks2 (v := .int (Int32.ofInt 0)) (n := 2) (kcL h2) hL4) ?_
  refine .step (ks0 (st' := .int (Int32.ofInt z) :: .int (Int32.ofInt 0) :: .ref 1048581 :: st) (kcL h3) rfl) ?_
  refine .step (ks0 (st' := .int (Int32.ofInt 0 + Int32.ofInt z) :: .ref 1048581 :: st) (kcL h4) rfl) ?_
  refine .step (ks5 (n := 1) (c1 := 0) (s1 := 0) (st' := .int (xs q) :: st) (ph' := ph) (kcL h5) ?_) kk
  subst hq
  show (bif pm_inb (Int32.ofInt 0 + Int32.ofInt z) 5 then some (1, Value.int (xs (Int32.ofInt 0 + Int32.ofInt z).toNatClampNeg) :: st, ph, 0, 0) else none) = _
  rw [hz]
  rfl
theorem kSarg {C : Nat → List Value → pm_H → pm_R → Prop} {y : pm_S} {L : List (Option Value)} {z : Int} {q : Nat} (hL0 : pm_load (.aload_n kF0) L = some (.ref 1048581, 1)) (hL4 : pm_load (.iload 4) L = some (.int (Int32.ofInt 0), 2)) (hz : pm_inb (Int32.ofInt 0 + Int32.ofInt z) 5 = true) (hq : (Int32.ofInt 0 + Int32.ofInt z).toNatClampNeg = q) (h1 : pm_tl kc_L pc = some (2, .aload_n kF0, 0)) (h2 : pm_tl kc_L (pc + 1) = some (2, .iload 4, 0)) (h3 : pm_tl kc_L (pc + 3) = some (0, .iconst z, 0)) (h4 : pm_tl kc_L (pc + 4) = some (0, .iadd, 0)) (h5 : pm_tl kc_L (pc + 5) = some (5, .iaload, 0)) (kk : pm_Se (kK2 xs 5) false C 0 (pc + 6, L, .int (xs q) :: st, ph, c, s) y) : pm_Se (kK2 xs 5) false C 0 (pc, L, st, ph, c, s) y := by
  refine .step (ks2 (v := .ref 1048581) (n := 1) (kcL h1) hL0) ?_
  refine .step (ks2 (v := .int (Int32.ofInt 0)) (n := 2) (kcL h2) hL4) ?_
  refine .step (ks0 (st' := .int (Int32.ofInt z) :: .int (Int32.ofInt 0) :: .ref 1048581 :: st) (kcL h3) rfl) ?_
  refine .step (ks0 (st' := .int (Int32.ofInt 0 + Int32.ofInt z) :: .ref 1048581 :: st) (kcL h4) rfl) ?_
  refine .step (ks5 (n := 1) (c1 := 0) (s1 := 0) (st' := .int (xs q) :: st) (ph' := ph) (kcL h5) ?_) kk
  subst hq
  show (bif pm_inb (Int32.ofInt 0 + Int32.ofInt z) 5 then some (1, Value.int (xs (Int32.ofInt 0 + Int32.ofInt z).toNatClampNeg) :: st, ph, 0, 0) else none) = _
  rw [hz]
  rfl
theorem kGoal.tailM {v5 v6 v7 : Option Value} (hc : c ≤ 600002) (hs : s ≤ 7302232) : kGoal xs 5 1534 (kLM v5 v6 v7) [] ph c s := by
  refine .step (ks3 (n := 3) (L' := [some (.ref 1048581), some (.ref 0), some (.ref 170), some (.ref 201), some (.int (Int32.ofInt 0 + Int32.ofInt 5)), v5, v6, v7]) (st' := []) (kcL (e := (3, .iinc 4 5, 0)) rfl) rfl) ?_
  refine .step (ks4 (pc' := 23) (st' := []) (kcL (e := (4, .goto (-1514), 23)) rfl) rfl) ?_
  refine .step (ks2 (n := 2) (v := .int (Int32.ofInt 0 + Int32.ofInt 5)) (kcL (e := (2, .iload 4, 0)) rfl) rfl) ?_
  refine .step (ks2 (n := 1) (v := .ref 1048581) (kcL (e := (2, .aload_n kF0, 0)) rfl) rfl) ?_
  refine .step (ks5 (n := 1) (c1 := 0) (s1 := 0) (st' := [.int (Int32.ofNat 5), .int (Int32.ofInt 0 + Int32.ofInt 5)]) (ph' := ph) (kcL (e := (5, .arraylength, 0)) rfl) rfl) ?_
  refine .step (ks0 (st' := [.int (Int32.ofInt 5), .int (Int32.ofNat 5), .int (Int32.ofInt 0 + Int32.ofInt 5)]) (kcL (e := (0, .iconst 5, 0)) rfl) rfl) ?_
  refine .step (ks0 (st' := [.int (Int32.ofNat 5 - Int32.ofInt 5), .int (Int32.ofInt 0 + Int32.ofInt 5)]) (kcL (e := (0, .isub, 0)) rfl) rfl) ?_
  refine .step (ks4 (pc' := 1540) (st' := []) (kcL (e := (4, .if_icmp .gt 1511, 1540)) rfl) (kbi_gt (b := true) (by decide +kernel))) ?_
  refine .step (ks0 (st' := [.int 1]) (kcL (e := (0, .iconst 1, 0)) rfl) ?_) ?_
  · have e : Int32.ofInt 1 = 1 := by decide +kernel
    show some [Value.int (Int32.ofInt 1)] = _
    rw [e]
  · exact .fin hc hs
end KT3
theorem knpT {j : Nat} {kc : List (List (Nat × Nat × Instr × Nat))} (hk : ∀ pc, pm_code kK j pc = pm_tl kc pc) (h : ∀ c ∈ kc, ∀ q ∈ c, pm_npf q.2.2.1 = true) : ∀ pc g ins aux, pm_code kK j pc = some (g, ins, aux) → ∀ i, ins ≠ .putfield i := by
  intro pc g ins aux h1 i e
  rw [hk] at h1
  obtain ⟨c, hc, hq⟩ := pm_tl_mem h1
  have h2 := h c hc _ hq
  subst e
  cases h2
section KT4
variable {p : Program} {l : Launch} {e : Env} {s : State} {m : MethodId} {below : List Frame} {meth : Method} {c : Code} {b : Nat} {xs : Nat → Int32} {D : va_G} {dA : Nat → ClassId} {ra : Nat → Nat}
theorem knp_129 : ∀ c ∈ kc_129, ∀ q ∈ c, pm_npf q.2.2.1 = true := by decide +kernel
theorem kpre_person {cs ss : Nat} : pm_Se (kK2 xs 5) false (pm_Rd kK false 40) 0 (355, kLL (Int32.ofInt 0), [], kH0, cs, ss) (369, kLL (Int32.ofInt 0), [.ref 201, .int (xs 2), .int (xs 1), .ref 0], kH0, cs, ss) := by
  refine .step (ks2 (n := 1) (v := .ref 0) (kcL (e := (2, .aload_n kF1, 0)) rfl) rfl) ?_
  refine kSarg rfl rfl kz1 ky1 rfl rfl rfl rfl rfl ?_
  refine kSarg rfl rfl kz2 ky2 rfl rfl rfl rfl rfl ?_
  refine .step (ks2 (n := 1) (v := .ref 201) (kcL (e := (2, .aload_n kF3, 0)) rfl) rfl) ?_
  exact .rf
theorem kpost_person {cs ss : Nat} (hc : cs ≤ 600000) (hs : ss ≤ 7000000) : kGoal xs 5 372 (kLL (Int32.ofInt 0)) [.int 1] kH0 cs ss := by
  obtain ⟨fs9, h9⟩ := kTa_person
  refine .step (ks3 (n := 2) (L' := kLM (some (.int 1)) none none) (st' := []) (kcL (e := (3, .istore 5, 0)) rfl) rfl) ?_
  refine .step (ks2 (n := 1) (v := .ref 170) (kcL (e := (2, .aload_n kF2, 0)) rfl) rfl) ?_
  refine .argM rfl rfl kz1 ky1 rfl rfl rfl rfl rfl ?_
  refine .argM rfl rfl kz2 ky2 rfl rfl rfl rfl rfl ?_
  refine .call (j := 236) (n := 2) (ci := 13) (a := 170) (r := []) rfl rfl rfl kat_170 rfl (kTm_person (xs 1) (xs 2)) ?_
  refine .step (ks3 (n := 2) (L' := kLM (some (.int 1)) (some (.int (Int32.ofInt 0))) none) (st' := []) (kcL (e := (3, .istore 6, 0)) rfl) rfl) ?_
  refine .step (ks2 (n := 1) (v := .ref 170) (kcL (e := (2, .aload_n kF2, 0)) rfl) rfl) ?_
  refine .call (j := 181) (n := 0) (ci := 13) (a := 170) (r := []) rfl rfl rfl h9 rfl kTt_person ?_
  refine .step (ks2 (n := 2) (v := .int 1) (kcL (e := (2, .iload 5, 0)) rfl) rfl) ?_
  refine .step (ks4 (pc' := 403) (st' := []) (kcL (e := (4, .if_icmp .eq 5, 403)) rfl) (kbi_eq (b := true) (by decide +kernel))) ?_
  refine .step (ks2 (n := 2) (v := .int 1) (kcL (e := (2, .iload 5, 0)) rfl) rfl) ?_
  refine .step (ks4 (pc' := 420) (st' := []) (kcL (e := (4, .ifCond .ne 15, 420)) rfl) (kbz_ne (b := false) (by decide +kernel))) ?_
  refine .step (ks4 (pc' := 1534) (st' := []) (kcL (e := (4, .goto 1114, 1534)) rfl) rfl) ?_
  exact .tailM (by omega) (by omega)
theorem kcase_person (hl : l.stackTraces = false) (F : kFx p s m meth c b 5 xs D dA ra) (Z : kTs s.heap.size s s.heap) {cs ss : Nat} (hc : cs ≤ 500000) (hs : ss ≤ 6000000) : kW p l e s m below meth c b D dA ra false (lw_Z below #[Value.ref b] s) (355, kLL (Int32.ofInt 0), [], kH0, cs, ss) := by
  refine kW_se F (by decide) kpre_person (show cs ≤ 600002 by omega) (show ss ≤ 7302232 by omega) ?_
  obtain ⟨n, hn⟩ := kTh_person (xs 1) (xs 2)
  have hx := kthrow (D := D) (dA := dA) (B := s.heap.size) (ra := ra) l hl (d := 10) (mj := 129) (as := [.ref 0, .int (xs 1), .int (xs 2)]) (Qc := va_Qi (S := Unit) (fun _ _ => False) (fun _ _ => True) (fun q => s.heap.size ≤ q)) rfl hn (by decide) ⟨_, rfl⟩ (by decide +kernel) (knpT (kc := kc_129) (fun _ => rfl) knp_129) (by decide +kernel) (by decide +kernel) (by decide +kernel) (by decide +kernel)
  have hM := khelp2 (ph := kH0) l (y := (⟨"BonnetValleyLaw", "person", "(LBonnetValley;II[J)I"⟩ : MethodName)) (bytes := method_3_code) (ix := 7) (jx := 129) (d := 11) kat_0 (by decide +kernel) rfl (by decide) (by decide +kernel) (by decide +kernel) (by decide +kernel) (by decide +kernel) (by decide +kernel) (by decide +kernel) (by decide +kernel) (by decide +kernel) (by decide +kernel) ⟨_, rfl⟩ (by decide +kernel) (kvin_ok (by decide +kernel)) (kvin_ok (by decide +kernel)) (kvin_ok (by decide +kernel)) (by decide +kernel) hx
  exact kW_help (ix := 57) (n := 4) (as := [.ref 0, .int (xs 1), .int (xs 2), .ref 201]) (r := []) F Z hM rfl (by decide) (by decide +kernel) (kvin_ok (by decide +kernel)) (kvin_ok (by decide +kernel)) (kvin_ok (by decide +kernel)) (kvin_ok (by decide +kernel)) (by decide +kernel) (by decide) (by decide) (by omega) (by omega) (kW_goal F (kpost_person (by omega) (by omega)))
theorem knp_130 : ∀ c ∈ kc_130, ∀ q ∈ c, pm_npf q.2.2.1 = true := by decide +kernel
theorem kpre_thing {cs ss : Nat} : pm_Se (kK2 xs 5) false (pm_Rd kK false 40) 0 (423, kLL (Int32.ofInt 0), [], kH0, cs, ss) (437, kLL (Int32.ofInt 0), [.ref 201, .int (xs 2), .int (xs 1), .ref 0], kH0, cs, ss) := by
  refine .step (ks2 (n := 1) (v := .ref 0) (kcL (e := (2, .aload_n kF1, 0)) rfl) rfl) ?_
  refine kSarg rfl rfl kz1 ky1 rfl rfl rfl rfl rfl ?_
  refine kSarg rfl rfl kz2 ky2 rfl rfl rfl rfl rfl ?_
  refine .step (ks2 (n := 1) (v := .ref 201) (kcL (e := (2, .aload_n kF3, 0)) rfl) rfl) ?_
  exact .rf
theorem kpost_thing {cs ss : Nat} (hc : cs ≤ 600000) (hs : ss ≤ 7000000) : kGoal xs 5 440 (kLL (Int32.ofInt 0)) [.int 1] kH0 cs ss := by
  obtain ⟨fs9, h9⟩ := kTa_thing
  refine .step (ks3 (n := 2) (L' := kLM (some (.int 1)) none none) (st' := []) (kcL (e := (3, .istore 5, 0)) rfl) rfl) ?_
  refine .step (ks2 (n := 1) (v := .ref 170) (kcL (e := (2, .aload_n kF2, 0)) rfl) rfl) ?_
  refine .argM rfl rfl kz1 ky1 rfl rfl rfl rfl rfl ?_
  refine .argM rfl rfl kz2 ky2 rfl rfl rfl rfl rfl ?_
  refine .call (j := 237) (n := 2) (ci := 13) (a := 170) (r := []) rfl rfl rfl kat_170 rfl (kTm_thing (xs 1) (xs 2)) ?_
  refine .step (ks3 (n := 2) (L' := kLM (some (.int 1)) (some (.int (Int32.ofInt 0))) none) (st' := []) (kcL (e := (3, .istore 6, 0)) rfl) rfl) ?_
  refine .step (ks2 (n := 1) (v := .ref 170) (kcL (e := (2, .aload_n kF2, 0)) rfl) rfl) ?_
  refine .call (j := 181) (n := 0) (ci := 13) (a := 170) (r := []) rfl rfl rfl h9 rfl kTt_thing ?_
  refine .step (ks2 (n := 2) (v := .int 1) (kcL (e := (2, .iload 5, 0)) rfl) rfl) ?_
  refine .step (ks4 (pc' := 471) (st' := []) (kcL (e := (4, .if_icmp .eq 5, 471)) rfl) (kbi_eq (b := true) (by decide +kernel))) ?_
  refine .step (ks2 (n := 2) (v := .int 1) (kcL (e := (2, .iload 5, 0)) rfl) rfl) ?_
  refine .step (ks4 (pc' := 488) (st' := []) (kcL (e := (4, .ifCond .ne 15, 488)) rfl) (kbz_ne (b := false) (by decide +kernel))) ?_
  refine .step (ks4 (pc' := 1534) (st' := []) (kcL (e := (4, .goto 1046, 1534)) rfl) rfl) ?_
  exact .tailM (by omega) (by omega)
theorem kcase_thing (hl : l.stackTraces = false) (F : kFx p s m meth c b 5 xs D dA ra) (Z : kTs s.heap.size s s.heap) {cs ss : Nat} (hc : cs ≤ 500000) (hs : ss ≤ 6000000) : kW p l e s m below meth c b D dA ra false (lw_Z below #[Value.ref b] s) (423, kLL (Int32.ofInt 0), [], kH0, cs, ss) := by
  refine kW_se F (by decide) kpre_thing (show cs ≤ 600002 by omega) (show ss ≤ 7302232 by omega) ?_
  obtain ⟨n, hn⟩ := kTh_thing (xs 1) (xs 2)
  have hx := kthrow (D := D) (dA := dA) (B := s.heap.size) (ra := ra) l hl (d := 10) (mj := 130) (as := [.ref 0, .int (xs 1), .int (xs 2)]) (Qc := va_Qi (S := Unit) (fun _ _ => False) (fun _ _ => True) (fun q => s.heap.size ≤ q)) rfl hn (by decide) ⟨_, rfl⟩ (by decide +kernel) (knpT (kc := kc_130) (fun _ => rfl) knp_130) (by decide +kernel) (by decide +kernel) (by decide +kernel) (by decide +kernel)
  have hM := khelp2 (ph := kH0) l (y := (⟨"BonnetValleyLaw", "thing", "(LBonnetValley;II[J)I"⟩ : MethodName)) (bytes := method_4_code) (ix := 15) (jx := 130) (d := 11) kat_0 (by decide +kernel) rfl (by decide) (by decide +kernel) (by decide +kernel) (by decide +kernel) (by decide +kernel) (by decide +kernel) (by decide +kernel) (by decide +kernel) (by decide +kernel) (by decide +kernel) ⟨_, rfl⟩ (by decide +kernel) (kvin_ok (by decide +kernel)) (kvin_ok (by decide +kernel)) (kvin_ok (by decide +kernel)) (by decide +kernel) hx
  exact kW_help (ix := 66) (n := 4) (as := [.ref 0, .int (xs 1), .int (xs 2), .ref 201]) (r := []) F Z hM rfl (by decide) (by decide +kernel) (kvin_ok (by decide +kernel)) (kvin_ok (by decide +kernel)) (kvin_ok (by decide +kernel)) (kvin_ok (by decide +kernel)) (by decide +kernel) (by decide) (by decide) (by omega) (by omega) (kW_goal F (kpost_thing (by omega) (by omega)))
theorem knp_180 : ∀ c ∈ kc_180, ∀ q ∈ c, pm_npf q.2.2.1 = true := by decide +kernel
theorem kpre_row {cs ss : Nat} : pm_Se (kK2 xs 5) false (pm_Rd kK false 40) 0 (1479, kLL (Int32.ofInt 0), [], kH0, cs, ss) (1487, kLL (Int32.ofInt 0), [.ref 201, .int (xs 1), .ref 0], kH0, cs, ss) := by
  refine .step (ks2 (n := 1) (v := .ref 0) (kcL (e := (2, .aload_n kF1, 0)) rfl) rfl) ?_
  refine kSarg rfl rfl kz1 ky1 rfl rfl rfl rfl rfl ?_
  refine .step (ks2 (n := 1) (v := .ref 201) (kcL (e := (2, .aload_n kF3, 0)) rfl) rfl) ?_
  exact .rf
theorem kpost_row {cs ss : Nat} (hc : cs ≤ 600000) (hs : ss ≤ 7000000) : kGoal xs 5 1490 (kLL (Int32.ofInt 0)) [.int 1] kH0 cs ss := by
  obtain ⟨fs9, h9⟩ := kTa_row
  refine .step (ks3 (n := 2) (L' := kLM (some (.int 1)) none none) (st' := []) (kcL (e := (3, .istore 5, 0)) rfl) rfl) ?_
  refine .step (ks2 (n := 1) (v := .ref 170) (kcL (e := (2, .aload_n kF2, 0)) rfl) rfl) ?_
  refine .argM rfl rfl kz1 ky1 rfl rfl rfl rfl rfl ?_
  refine .call (j := 300) (n := 1) (ci := 13) (a := 170) (r := []) rfl rfl rfl kat_170 rfl (kTm_row (xs 1)) ?_
  refine .step (ks3 (n := 2) (L' := kLM (some (.int 1)) (some (.long (Int64.ofNat 0))) none) (st' := []) (kcL (e := (3, .lstore 6, 0)) rfl) rfl) ?_
  refine .step (ks2 (n := 1) (v := .ref 170) (kcL (e := (2, .aload_n kF2, 0)) rfl) rfl) ?_
  refine .call (j := 181) (n := 0) (ci := 13) (a := 170) (r := []) rfl rfl rfl h9 rfl kTt_row ?_
  refine .step (ks2 (n := 2) (v := .int 1) (kcL (e := (2, .iload 5, 0)) rfl) rfl) ?_
  refine .step (ks4 (pc' := 1515) (st' := []) (kcL (e := (4, .if_icmp .eq 5, 1515)) rfl) (kbi_eq (b := true) (by decide +kernel))) ?_
  refine .step (ks2 (n := 2) (v := .int 1) (kcL (e := (2, .iload 5, 0)) rfl) rfl) ?_
  refine .step (ks4 (pc' := 1531) (st' := []) (kcL (e := (4, .ifCond .ne 14, 1531)) rfl) (kbz_ne (b := false) (by decide +kernel))) ?_
  refine .step (ks4 (pc' := 1534) (st' := []) (kcL (e := (4, .goto 3, 1534)) rfl) rfl) ?_
  exact .tailM (by omega) (by omega)
theorem kcase_row (hl : l.stackTraces = false) (F : kFx p s m meth c b 5 xs D dA ra) (Z : kTs s.heap.size s s.heap) {cs ss : Nat} (hc : cs ≤ 500000) (hs : ss ≤ 6000000) : kW p l e s m below meth c b D dA ra false (lw_Z below #[Value.ref b] s) (1479, kLL (Int32.ofInt 0), [], kH0, cs, ss) := by
  refine kW_se F (by decide) kpre_row (show cs ≤ 600002 by omega) (show ss ≤ 7302232 by omega) ?_
  obtain ⟨n, hn⟩ := kTh_row (xs 1)
  have hx := kthrow (D := D) (dA := dA) (B := s.heap.size) (ra := ra) l hl (d := 10) (mj := 180) (as := [.ref 0, .int (xs 1)]) (Qc := va_Ql (S := Unit) (fun _ _ => False) (fun _ _ => True) (fun q => s.heap.size ≤ q)) rfl hn (by decide) ⟨_, rfl⟩ (by decide +kernel) (knpT (kc := kc_180) (fun _ => rfl) knp_180) (by decide +kernel) (by decide +kernel) (by decide +kernel) (by decide +kernel)
  have hM := khelp1 (ph := kH0) l (y := (⟨"BonnetValleyLaw", "row", "(LBonnetValley;I[J)I"⟩ : MethodName)) (bytes := method_5_code) (ix := 18) (jx := 180) (d := 11) kat_0 (by decide +kernel) rfl (by decide) (by decide +kernel) (by decide +kernel) (by decide +kernel) (by decide +kernel) (by decide +kernel) (by decide +kernel) (by decide +kernel) (by decide +kernel) ⟨_, rfl⟩ (by decide +kernel) (kvin_ok (by decide +kernel)) (kvin_ok (by decide +kernel)) (kvin_ok (by decide +kernel)) (by decide +kernel) hx
  exact kW_help (ix := 220) (n := 3) (as := [.ref 0, .int (xs 1), .ref 201]) (r := []) F Z hM rfl (by decide) (by decide +kernel) (kvin_ok (by decide +kernel)) (kvin_ok (by decide +kernel)) (kvin_ok (by decide +kernel)) (kvin_ok (by decide +kernel)) (by decide +kernel) (by decide) (by decide) (by omega) (by omega) (kW_goal F (kpost_row (by omega) (by omega)))
end KT4
